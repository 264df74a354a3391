section PmStep2
variable {p : Program} {l : Launch} {e : Env} {R : Room} {s : State} {m : MethodId} {args : Array Value} {below : List Frame} {meth : Method} {c : Code} {H : Heap} {locs : List Loc} {cells slots : Nat} {Q : State → Prop}
variable {D : va_G} {K : pm_K4} {base bb : Nat} {sc : pm_S} {M : pm_M} {ad : Nat → Nat} {w w' : pm_W} {ls ls' st st' : List Value} {rls : Array Slot} {pc pc' c2 s2 dd : Nat} {en : pm_E}
set_option maxHeartbeats 4000000 in
/-- ANY STEP THAT GOES ON -/
theorem pm_snd (X : pm_X p s m args meth c D K base bb sc M) (hc : pm_chk M.1 M.2.1 M.2.2.2.1 M.2.2.2.2.1 pc en = true) (P : pm_P D K base bb ad w s H locs) (L : pm_L ad bb rls ls) (hL : ls.length = M.2.2.1) (hdd : dd ≤ R.frames ∧ 64 * dd ≤ R.locals) (hR : cells + c2 ≤ R.cells ∧ slots + s2 ≤ R.slots)
    (hx : pm_x sc dd en pc ls st w = some (.inl (pc', ls', st', w', c2, s2)))
    (kk : ∀ (ad' : Nat → Nat) (H' : Heap) (locs' : List Loc) (rls' : Array Slot), (∀ i, i < w.length → ad' i = ad i) → (c2 = 0 → ad' = ad) → pm_P D K base bb ad' w' s H' locs' → pm_L ad' bb rls' ls' → W p l e R s m args below meth c H' locs' (cells + c2) (slots + s2) Q (F0 m pc' rls' (st'.map (pm_tr ad' bb)))) :
    W p l e R s m args below meth c H locs cells slots Q (F0 m pc rls (st.map (pm_tr ad bb))) := by
  obtain ⟨ins, nx, a, b, c1, d⟩ := en
  cases ins with
  | iconst n => exact pm_snd_iconst X hc P L hL hdd hR hx kk
  | bipush n => exact pm_snd_bipush X hc P L hL hdd hR hx kk
  | sipush n => exact pm_snd_sipush X hc P L hL hdd hR hx kk
  | lconst n => exact pm_snd_lconst X hc P L hL hdd hR hx kk
  | ldc i => exact pm_snd_ldc X hc P L hL hdd hR hx kk
  | ldc_w i => exact pm_snd_ldc_w X hc P L hL hdd hR hx kk
  | ldc2_w i => exact pm_snd_ldc2_w X hc P L hL hdd hR hx kk
  | iload k => exact pm_snd_iload X hc P L hL hdd hR hx kk
  | iload_n k => exact pm_snd_iload_n X hc P L hL hdd hR hx kk
  | lload k => exact pm_snd_lload X hc P L hL hdd hR hx kk
  | lload_n k => exact pm_snd_lload_n X hc P L hL hdd hR hx kk
  | aload k => exact pm_snd_aload X hc P L hL hdd hR hx kk
  | aload_n k => exact pm_snd_aload_n X hc P L hL hdd hR hx kk
  | istore k => exact pm_snd_istore X hc P L hL hdd hR hx kk
  | istore_n k => exact pm_snd_istore_n X hc P L hL hdd hR hx kk
  | lstore k => exact pm_snd_lstore X hc P L hL hdd hR hx kk
  | lstore_n k => exact pm_snd_lstore_n X hc P L hL hdd hR hx kk
  | astore_n k => exact pm_snd_astore_n X hc P L hL hdd hR hx kk
  | iinc k n => exact pm_snd_iinc X hc P L hL hdd hR hx kk
  | dup => exact pm_snd_dup X hc P L hL hdd hR hx kk
  | pop => exact pm_snd_pop X hc P L hL hdd hR hx kk
  | dup2 => exact pm_snd_dup2 X hc P L hL hdd hR hx kk
  | iadd => exact pm_snd_iadd X hc P L hL hdd hR hx kk
  | isub => exact pm_snd_isub X hc P L hL hdd hR hx kk
  | imul => exact pm_snd_imul X hc P L hL hdd hR hx kk
  | iand => exact pm_snd_iand X hc P L hL hdd hR hx kk
  | ior => exact pm_snd_ior X hc P L hL hdd hR hx kk
  | ixor => exact pm_snd_ixor X hc P L hL hdd hR hx kk
  | ishl => exact pm_snd_ishl X hc P L hL hdd hR hx kk
  | ishr => exact pm_snd_ishr X hc P L hL hdd hR hx kk
  | iushr => exact pm_snd_iushr X hc P L hL hdd hR hx kk
  | idiv => exact pm_snd_idiv X hc P L hL hdd hR hx kk
  | irem => exact pm_snd_irem X hc P L hL hdd hR hx kk
  | ineg => exact pm_snd_ineg X hc P L hL hdd hR hx kk
  | i2l => exact pm_snd_i2l X hc P L hL hdd hR hx kk
  | l2i => exact pm_snd_l2i X hc P L hL hdd hR hx kk
  | land => exact pm_snd_land X hc P L hL hdd hR hx kk
  | lor => exact pm_snd_lor X hc P L hL hdd hR hx kk
  | lxor => exact pm_snd_lxor X hc P L hL hdd hR hx kk
  | lshl => exact pm_snd_lshl X hc P L hL hdd hR hx kk
  | lushr => exact pm_snd_lushr X hc P L hL hdd hR hx kk
  | lcmp => exact pm_snd_lcmp X hc P L hL hdd hR hx kk
  | if_icmp cd off => exact pm_snd_if_icmp X hc P L hL hdd hR hx kk
  | ifCond cd off => exact pm_snd_ifCond X hc P L hL hdd hR hx kk
  | goto off => exact pm_snd_goto X hc P L hL hdd hR hx kk
  | tableswitch df lo hi offs => exact pm_snd_tableswitch X hc P L hL hdd hR hx kk
  | lookupswitch df ps => exact pm_snd_lookupswitch X hc P L hL hdd hR hx kk
  | baload => exact pm_snd_baload X hc P L hL hdd hR hx kk
  | laload => exact pm_snd_laload X hc P L hL hdd hR hx kk
  | iaload => exact pm_snd_iaload X hc P L hL hdd hR hx kk
  | aaload => exact pm_snd_aaload X hc P L hL hdd hR hx kk
  | iastore => exact pm_snd_iastore X hc P L hL hdd hR hx kk
  | bastore => exact pm_snd_bastore X hc P L hL hdd hR hx kk
  | lastore => exact pm_snd_lastore X hc P L hL hdd hR hx kk
  | aastore => exact pm_snd_aastore X hc P L hL hdd hR hx kk
  | arraylength => exact pm_snd_arraylength X hc P L hL hdd hR hx kk
  | getfield i => exact pm_snd_getfield X hc P L hL hdd hR hx kk
  | putfield i => exact pm_snd_putfield X hc P L hL hdd hR hx kk
  | new i => exact pm_snd_new X hc P L hL hdd hR hx kk
  | anewarray i => exact pm_snd_anewarray X hc P L hL hdd hR hx kk
  | invokespecial i => exact pm_snd_objinit X hc P L hL hdd hR hx kk
  | invokestatic i => exact pm_snd_static X hc P L hL hdd hR hx kk
  | newarray at1 =>
    cases at1 with
    | int => exact pm_snd_newI X hc P L hL hdd hR hx kk
    | boolean => exact pm_snd_newZ X hc P L hL hdd hR hx kk
    | long => exact pm_snd_newJ X hc P L hL hdd hR hx kk
    | _ => cases hx
  | invokevirtual i =>
    replace hx : pm_callV a b c1 d st w = some _ := hx
    unfold pm_callV at hx
    have hx_0 := pm_bifn hx
    clear hx
    obtain ⟨-, hx⟩ := hx_0
    split at hx
    · split at hx
      · have hx_0 := pm_bif hx
        clear hx
        obtain ⟨-, hx⟩ := hx_0
        cases hx
      · cases hx
    · cases hx
  | ireturn =>
    replace hx : (match st with
    | [.int x] => bif Nat.beq a 0 || decide (x = 0) || decide (x = 1) then (some (.inr (.inr (some (.int x)))) : Option pm_N) else none
    | _ => none) = some _ := hx
    split at hx
    · have hx_0 := pm_bif hx
      clear hx
      obtain ⟨-, hx⟩ := hx_0
      cases hx
    · cases hx
  | return_ =>
    replace hx : (match st with
    | [] => (some (.inr (.inr none)) : Option pm_N)
    | _ => none) = some _ := hx
    split at hx <;> cases hx
  | _ => cases hx
end PmStep2
