section PmV
variable {sc : pm_S} {ih ih' : Nat → Nat → Nat → List Value → List Value → pm_W → Nat → Nat → pm_R} {d mi pc : Nat} {ls st : List Value} {w : pm_W} {kc ks : Nat} {z : Option Value × pm_W × Nat × Nat} {e : pm_E}
theorem pm_step_go {pc' c s : Nat} {ls' st' : List Value} {w' : pm_W} (hc : pm_code mi pc = some e) (hx : pm_x sc d e pc ls st w = some (.inl (pc', ls', st', w', c, s))) (h : ih d mi pc' ls' st' w' (kc + c) (ks + s) = some z) : pm_step sc ih d mi pc ls st w kc ks = some z := by
  unfold pm_step
  rw [hc]
  dsimp only
  rw [hx]
  dsimp only
  cases hb : Nat.beq (c + s) 0 with
  | true =>
    have := Nat.eq_of_beq_eq_true hb
    rw [show c = 0 by omega, show s = 0 by omega] at h
    exact h
  | false => exact h
theorem pm_step_end {rv : Option Value} (hc : pm_code mi pc = some e) (hx : pm_x sc d e pc ls st w = some (.inr (.inr rv))) : pm_step sc ih d mi pc ls st w kc ks = some (rv, w, kc, ks) := by
  unfold pm_step
  rw [hc]
  dsimp only
  rw [hx]
theorem pm_step_call {mj mL c s : Nat} {as r : List Value} {rv : Option Value} {w' : pm_W} (hc : pm_code mi pc = some e) (hx : pm_x sc (d + 1) e pc ls st w = some (.inr (.inl (mj, as, r, mL)))) (hl : Nat.blt mL (pm_arg as).length = false) (h1 : ih d mj 0 (pm_ent as mL) [] w 0 0 = some (rv, w', c, s)) (hk : (c = 0 ∧ s = 0) ∨ (pm_okl w.length ls = true ∧ pm_okl w.length r = true)) (h2 : ih (d + 1) mi e.2.1 ls (pm_rv rv r) w' (kc + c) (ks + s) = some z) : pm_step sc ih (d + 1) mi pc ls st w kc ks = some z := by
  unfold pm_step
  rw [hc]
  dsimp only
  rw [hx]
  dsimp only
  rw [hl, cond_false, h1]
  dsimp only
  cases hb : Nat.beq (c + s) 0 with
  | true =>
    have := Nat.eq_of_beq_eq_true hb
    rw [show c = 0 by omega, show s = 0 by omega] at h2
    exact h2
  | false =>
    rcases hk with ⟨h3, h4⟩ | ⟨h3, h4⟩
    · subst h3; subst h4; cases hb
    · rw [cond_false, h3, h4]
      exact h2
/-- more steps, any script -/
theorem pm_run_more (sc' : pm_S) (hsc : sc' = none ∨ sc' = sc) (n : Nat) : ∀ (k d mi pc : Nat) (ls st : List Value) (w : pm_W) (kc ks : Nat) (z : Option Value × pm_W × Nat × Nat), pm_run sc' n d mi pc ls st w kc ks = some z → pm_run sc (n + k) d mi pc ls st w kc ks = some z := by
  have px : ∀ {dd pc : Nat} {e : pm_E} {ls st : List Value} {w : pm_W} {y : pm_N}, pm_x sc' dd e pc ls st w = some y → pm_x sc dd e pc ls st w = some y := fun h => by
    rcases hsc with rfl | rfl
    · exact pm_x_sc h
    · exact h
  induction n with
  | zero => intro k d mi pc ls st w kc ks z h; cases h
  | succ n ih =>
    intro k d mi pc ls st w kc ks z h
    rw [pm_run_succ] at h
    rw [show n + 1 + k = (n + k) + 1 by omega, pm_run_succ]
    obtain ⟨e, hc, h1 | h1 | h1⟩ := pm_step_inv h
    · obtain ⟨pc', ls', st', w', c, s, hx, h2⟩ := h1
      exact pm_step_go hc (px hx) (ih _ _ _ _ _ _ _ _ _ _ h2)
    · obtain ⟨rv, hx, rfl⟩ := h1
      exact pm_step_end hc (px hx)
    · obtain ⟨mj, as, r, mL, d', rv, w', c, s, rfl, hx, hl, h2, h3, h4⟩ := h1
      rcases h3 with h3 | h3
      · have hm : c + s = 0 ∨ (pm_okl w.length ls = true ∧ pm_okl w.length r = true) := by
          unfold pm_step at h
          rw [hc] at h
          dsimp only at h
          rw [hx] at h
          dsimp only at h
          rw [hl, cond_false, h2] at h
          dsimp only at h
          cases hb : Nat.beq (c + s) 0 with
          | true => exact Or.inl (Nat.eq_of_beq_eq_true hb)
          | false =>
            rw [hb, cond_false] at h
            have := (pm_bif h).1
            rw [Bool.and_eq_true] at this
            exact Or.inr this
        rcases hm with hm | hm
        · exact pm_step_call hc (px hx) hl (ih _ _ _ _ _ _ _ _ _ _ h2) (Or.inl ⟨by omega, by omega⟩) (ih _ _ _ _ _ _ _ _ _ _ h4)
        · exact pm_step_call hc (px hx) hl (ih _ _ _ _ _ _ _ _ _ _ h2) (Or.inr hm) (ih _ _ _ _ _ _ _ _ _ _ h4)
      · exact pm_step_call hc (px hx) hl (ih _ _ _ _ _ _ _ _ _ _ h2) (Or.inr h3) (ih _ _ _ _ _ _ _ _ _ _ h4)
end PmV
/-- FROM HERE it ends, nothing is made, and Q holds of answer and world -/
def pm_V (sc : pm_S) (d mi pc : Nat) (ls st : List Value) (w : pm_W) (Q : Option Value → pm_W → Prop) : Prop := ∃ (n : Nat) (rv : Option Value) (w2 : pm_W), (∀ kc ks, pm_run sc n d mi pc ls st w kc ks = some (rv, w2, kc, ks)) ∧ Q rv w2
/-- A METHOD'S CONTRACT: with k frames of room -/
def pm_Mt (sc : pm_S) (k mj mL : Nat) (as : List Value) (w : pm_W) (Q : Option Value → pm_W → Prop) : Prop := ∀ d, k ≤ d → pm_V sc d mj 0 (pm_ent as mL) [] w Q
section PmR
variable {sc : pm_S} {d mi pc nx a b c f : Nat} {ls st r : List Value} {w : pm_W} {Q : Option Value → pm_W → Prop} {e : pm_E}
theorem v_go {pc' : Nat} {ls' st' : List Value} {w' : pm_W} (hc : pm_code mi pc = some e) (hx : pm_x sc d e pc ls st w = some (.inl (pc', ls', st', w', 0, 0))) (k : pm_V sc d mi pc' ls' st' w' Q) : pm_V sc d mi pc ls st w Q := by
  obtain ⟨n, rv, w2, h, q⟩ := k
  exact ⟨n + 1, rv, w2, fun kc ks => by rw [pm_run_succ]; exact pm_step_go hc hx (h kc ks), q⟩
theorem v_end {rv : Option Value} (hc : pm_code mi pc = some e) (hx : pm_x sc d e pc ls st w = some (.inr (.inr rv))) (q : Q rv w) : pm_V sc d mi pc ls st w Q := ⟨1, rv, w, fun kc ks => by rw [pm_run_succ]; exact pm_step_end hc hx, q⟩
theorem v_weak {Q' : Option Value → pm_W → Prop} (h : pm_V sc d mi pc ls st w Q') (k : ∀ rv w', Q' rv w' → Q rv w') : pm_V sc d mi pc ls st w Q := by
  obtain ⟨n, rv, w2, h, q⟩ := h
  exact ⟨n, rv, w2, h, k _ _ q⟩
theorem m_weak {k mj mL : Nat} {as : List Value} {Q' : Option Value → pm_W → Prop} (h : pm_Mt sc k mj mL as w Q') (g : ∀ rv w', Q' rv w' → Q rv w') : pm_Mt sc k mj mL as w Q := fun d hd => v_weak (h d hd) g
theorem v_call {mj mL k0 : Nat} {as : List Value} {Q' : Option Value → pm_W → Prop} (hc : pm_code mi pc = some e) (hx : pm_x sc d e pc ls st w = some (.inr (.inl (mj, as, r, mL)))) (hl : Nat.blt mL (pm_arg as).length = false) (hd : k0 + 1 ≤ d) (m : pm_Mt sc k0 mj mL as w Q') (k : ∀ rv w', Q' rv w' → pm_V sc d mi e.2.1 ls (pm_rv rv r) w' Q) : pm_V sc d mi pc ls st w Q := by
  obtain ⟨d', rfl⟩ : ∃ d', d = d' + 1 := ⟨d - 1, by omega⟩
  obtain ⟨n1, rv, w', h1, q1⟩ := m d' (by omega)
  obtain ⟨n2, rv2, w2, h2, q2⟩ := k rv w' q1
  refine ⟨n1 + n2 + 1, rv2, w2, fun kc ks => ?_, q2⟩
  rw [pm_run_succ]
  refine pm_step_call hc hx hl (pm_run_more sc (Or.inr rfl) n1 n2 _ _ _ _ _ _ _ _ _ (h1 0 0)) (Or.inl ⟨rfl, rfl⟩) ?_
  rw [Nat.add_comm n1 n2]
  exact pm_run_more sc (Or.inr rfl) n2 n1 _ _ _ _ _ _ _ _ _ (h2 kc ks)
/-- instructions -/
theorem v_iconst {n : Int} {v : Int32} (hc : pm_code mi pc = some (.iconst n, nx, a, b, c, f)) (hv : Int32.ofInt n = v) (k : pm_V sc d mi nx ls (.int v :: st) w Q) : pm_V sc d mi pc ls st w Q := v_go hc (by rw [← hv]; rfl) k
theorem v_bipush {n : Int} {v : Int32} (hc : pm_code mi pc = some (.bipush n, nx, a, b, c, f)) (hv : (Int8.ofInt n).toInt32 = v) (k : pm_V sc d mi nx ls (.int v :: st) w Q) : pm_V sc d mi pc ls st w Q := v_go hc (by rw [← hv]; rfl) k
theorem v_sipush {n : Int} {v : Int32} (hc : pm_code mi pc = some (.sipush n, nx, a, b, c, f)) (hv : (Int16.ofInt n).toInt32 = v) (k : pm_V sc d mi nx ls (.int v :: st) w Q) : pm_V sc d mi pc ls st w Q := v_go hc (by rw [← hv]; rfl) k
theorem v_lconst {n : Fin 2} {v : Int64} (hc : pm_code mi pc = some (.lconst n, nx, a, b, c, f)) (hv : Int64.ofNat n = v) (k : pm_V sc d mi nx ls (.long v :: st) w Q) : pm_V sc d mi pc ls st w Q := v_go hc (by rw [← hv]; rfl) k
theorem v_ldc {i : Nat} {v : Int32} (hc : pm_code mi pc = some (.ldc i, nx, a, b, c, f)) (hv : Int32.ofNat a = v) (k : pm_V sc d mi nx ls (.int v :: st) w Q) : pm_V sc d mi pc ls st w Q := v_go hc (by rw [← hv]; rfl) k
theorem v_ldc_w {i : Nat} {v : Int32} (hc : pm_code mi pc = some (.ldc_w i, nx, a, b, c, f)) (hv : Int32.ofNat a = v) (k : pm_V sc d mi nx ls (.int v :: st) w Q) : pm_V sc d mi pc ls st w Q := v_go hc (by rw [← hv]; rfl) k
theorem v_ldc2_w {i : Nat} {v : Int64} (hc : pm_code mi pc = some (.ldc2_w i, nx, a, b, c, f)) (hv : Int64.ofNat a = v) (k : pm_V sc d mi nx ls (.long v :: st) w Q) : pm_V sc d mi pc ls st w Q := v_go hc (by rw [← hv]; rfl) k
theorem v_iload {i : Nat} {x : Int32} (hc : pm_code mi pc = some (.iload i, nx, a, b, c, f)) (hl : ls[i]? = some (.int x)) (k : pm_V sc d mi nx ls (.int x :: st) w Q) : pm_V sc d mi pc ls st w Q := v_go hc (by show pm_iload nx ls i st w = _; unfold pm_iload; rw [hl]; rfl) k
theorem v_iload_n {i : Fin 4} {x : Int32} (hc : pm_code mi pc = some (.iload_n i, nx, a, b, c, f)) (hl : ls[(i : Nat)]? = some (.int x)) (k : pm_V sc d mi nx ls (.int x :: st) w Q) : pm_V sc d mi pc ls st w Q := v_go hc (by show pm_iload nx ls i st w = _; unfold pm_iload; rw [hl]; rfl) k
theorem v_lload {i : Nat} {x : Int64} (hc : pm_code mi pc = some (.lload i, nx, a, b, c, f)) (hl : ls[i]? = some (.long x)) (k : pm_V sc d mi nx ls (.long x :: st) w Q) : pm_V sc d mi pc ls st w Q := v_go hc (by show pm_lload nx ls i st w = _; unfold pm_lload; rw [hl]; rfl) k
theorem v_lload_n {i : Fin 4} {x : Int64} (hc : pm_code mi pc = some (.lload_n i, nx, a, b, c, f)) (hl : ls[(i : Nat)]? = some (.long x)) (k : pm_V sc d mi nx ls (.long x :: st) w Q) : pm_V sc d mi pc ls st w Q := v_go hc (by show pm_lload nx ls i st w = _; unfold pm_lload; rw [hl]; rfl) k
theorem v_aload_n {i : Fin 4} {x : Nat} (hc : pm_code mi pc = some (.aload_n i, nx, a, b, c, f)) (hl : ls[(i : Nat)]? = some (.ref x)) (k : pm_V sc d mi nx ls (.ref x :: st) w Q) : pm_V sc d mi pc ls st w Q := v_go hc (by show pm_aload nx ls i st w = _; unfold pm_aload; rw [hl]; rfl) k
theorem v_saload_n {i : Fin 4} {x : Nat} (hc : pm_code mi pc = some (.aload_n i, nx, a, b, c, f)) (hl : ls[(i : Nat)]? = some (.retAddr x)) (k : pm_V sc d mi nx ls (.retAddr x :: st) w Q) : pm_V sc d mi pc ls st w Q := v_go hc (by show pm_aload nx ls i st w = _; unfold pm_aload; rw [hl]; rfl) k
theorem pm_blt_t {a b : Nat} (h : a < b) : Nat.blt a b = true := Nat.ble_eq_true_of_le h
theorem v_istore {i : Nat} {x : Int32} (hc : pm_code mi pc = some (.istore i, nx, a, b, c, f)) (hi : i < ls.length) (k : pm_V sc d mi nx (pm_s1 ls i (.int x)) st w Q) : pm_V sc d mi pc ls (.int x :: st) w Q := v_go hc (by show (bif Nat.blt i ls.length then pm_go nx (pm_s1 ls i (.int x)) st w else none) = _; rw [pm_blt_t hi]; rfl) k
theorem v_istore_n {i : Fin 4} {x : Int32} (hc : pm_code mi pc = some (.istore_n i, nx, a, b, c, f)) (hi : (i : Nat) < ls.length) (k : pm_V sc d mi nx (pm_s1 ls i (.int x)) st w Q) : pm_V sc d mi pc ls (.int x :: st) w Q := v_go hc (by show (bif Nat.blt i ls.length then pm_go nx (pm_s1 ls i (.int x)) st w else none) = _; rw [pm_blt_t hi]; rfl) k
theorem v_lstore {i : Nat} {x : Int64} (hc : pm_code mi pc = some (.lstore i, nx, a, b, c, f)) (hi : i + 1 < ls.length) (k : pm_V sc d mi nx (pm_s2 ls i (.long x)) st w Q) : pm_V sc d mi pc ls (.long x :: st) w Q := v_go hc (by show (bif Nat.blt (i + 1) ls.length then pm_go nx (pm_s2 ls i (.long x)) st w else none) = _; rw [pm_blt_t hi]; rfl) k
theorem v_lstore_n {i : Fin 4} {x : Int64} (hc : pm_code mi pc = some (.lstore_n i, nx, a, b, c, f)) (hi : (i : Nat) + 1 < ls.length) (k : pm_V sc d mi nx (pm_s2 ls i (.long x)) st w Q) : pm_V sc d mi pc ls (.long x :: st) w Q := v_go hc (by show (bif Nat.blt (i + 1) ls.length then pm_go nx (pm_s2 ls i (.long x)) st w else none) = _; rw [pm_blt_t hi]; rfl) k
theorem v_iinc {i : Nat} {n : Int} {x v : Int32} (hc : pm_code mi pc = some (.iinc i n, nx, a, b, c, f)) (hl : ls[i]? = some (.int x)) (hv : x + Int32.ofInt n = v) (k : pm_V sc d mi nx (pm_s1 ls i (.int v)) st w Q) : pm_V sc d mi pc ls st w Q := v_go hc (by show pm_iinc nx ls i n st w = _; unfold pm_iinc; rw [hl]; dsimp only; rw [pm_fi_eq, hv]; rfl) k
theorem v_dup {v : Value} (hc : pm_code mi pc = some (.dup, nx, a, b, c, f)) (h : pm_c1 v = true) (k : pm_V sc d mi nx ls (v :: v :: st) w Q) : pm_V sc d mi pc ls (v :: st) w Q := v_go hc (by show (bif pm_c1 v then pm_go nx ls (v :: v :: st) w else none) = _; rw [h]; rfl) k
theorem v_pop {v : Value} (hc : pm_code mi pc = some (.pop, nx, a, b, c, f)) (h : pm_c1 v = true) (k : pm_V sc d mi nx ls st w Q) : pm_V sc d mi pc ls (v :: st) w Q := v_go hc (by show (bif pm_c1 v then pm_go nx ls st w else none) = _; rw [h]; rfl) k
theorem v_dup2 {v u : Value} (hc : pm_code mi pc = some (.dup2, nx, a, b, c, f)) (h : (pm_c1 v && pm_c1 u) = true) (k : pm_V sc d mi nx ls (v :: u :: v :: u :: st) w Q) : pm_V sc d mi pc ls (v :: u :: st) w Q := v_go hc (by show (bif pm_c1 v && pm_c1 u then pm_go nx ls (v :: u :: v :: u :: st) w else none) = _; rw [h]; rfl) k
theorem v_iadd {x y : Int32} (hc : pm_code mi pc = some (.iadd, nx, a, b, c, f)) (k : pm_V sc d mi nx ls (.int (x + y) :: st) w Q) : pm_V sc d mi pc ls (.int y :: .int x :: st) w Q := v_go hc (pm_gi_eq (x := x + y)) k
theorem v_isub {x y : Int32} (hc : pm_code mi pc = some (.isub, nx, a, b, c, f)) (k : pm_V sc d mi nx ls (.int (x - y) :: st) w Q) : pm_V sc d mi pc ls (.int y :: .int x :: st) w Q := v_go hc (pm_gi_eq (x := x - y)) k
theorem v_imul {x y : Int32} (hc : pm_code mi pc = some (.imul, nx, a, b, c, f)) (k : pm_V sc d mi nx ls (.int (x * y) :: st) w Q) : pm_V sc d mi pc ls (.int y :: .int x :: st) w Q := v_go hc (pm_gi_eq (x := x * y)) k
theorem v_iand {x y : Int32} (hc : pm_code mi pc = some (.iand, nx, a, b, c, f)) (k : pm_V sc d mi nx ls (.int (x &&& y) :: st) w Q) : pm_V sc d mi pc ls (.int y :: .int x :: st) w Q := v_go hc (pm_gi_eq (x := x &&& y)) k
theorem v_ior {x y : Int32} (hc : pm_code mi pc = some (.ior, nx, a, b, c, f)) (k : pm_V sc d mi nx ls (.int (x ||| y) :: st) w Q) : pm_V sc d mi pc ls (.int y :: .int x :: st) w Q := v_go hc (pm_gi_eq (x := x ||| y)) k
theorem v_ixor {x y : Int32} (hc : pm_code mi pc = some (.ixor, nx, a, b, c, f)) (k : pm_V sc d mi nx ls (.int (x ^^^ y) :: st) w Q) : pm_V sc d mi pc ls (.int y :: .int x :: st) w Q := v_go hc (pm_gi_eq (x := x ^^^ y)) k
theorem v_ishl {x y : Int32} (hc : pm_code mi pc = some (.ishl, nx, a, b, c, f)) (k : pm_V sc d mi nx ls (.int (x <<< (y &&& 31)) :: st) w Q) : pm_V sc d mi pc ls (.int y :: .int x :: st) w Q := v_go hc (pm_gi_eq (x := x <<< (y &&& 31))) k
theorem v_ishr {x y : Int32} (hc : pm_code mi pc = some (.ishr, nx, a, b, c, f)) (k : pm_V sc d mi nx ls (.int (x >>> (y &&& 31)) :: st) w Q) : pm_V sc d mi pc ls (.int y :: .int x :: st) w Q := v_go hc (pm_gi_eq (x := x >>> (y &&& 31))) k
theorem v_iushr {x y : Int32} (hc : pm_code mi pc = some (.iushr, nx, a, b, c, f)) (k : pm_V sc d mi nx ls (.int (x.toUInt32 >>> (y.toUInt32 &&& Int32.toUInt32 31)).toInt32 :: st) w Q) : pm_V sc d mi pc ls (.int y :: .int x :: st) w Q := v_go hc (pm_gi_eq (x := (x.toUInt32 >>> (y.toUInt32 &&& Int32.toUInt32 31)).toInt32)) k
theorem v_idiv {x y : Int32} (hc : pm_code mi pc = some (.idiv, nx, a, b, c, f)) (hy : ¬ y = 0) (k : pm_V sc d mi nx ls (.int (x / y) :: st) w Q) : pm_V sc d mi pc ls (.int y :: .int x :: st) w Q := v_go hc (by show (bif decide (y = 0) then none else pm_gi nx ls (x / y) st w) = _; rw [decide_eq_false hy]; exact pm_gi_eq) k
theorem v_irem {x y : Int32} (hc : pm_code mi pc = some (.irem, nx, a, b, c, f)) (hy : ¬ y = 0) (k : pm_V sc d mi nx ls (.int (x - x / y * y) :: st) w Q) : pm_V sc d mi pc ls (.int y :: .int x :: st) w Q := v_go hc (by show (bif decide (y = 0) then none else pm_gi nx ls (x - x / y * y) st w) = _; rw [decide_eq_false hy]; exact pm_gi_eq) k
theorem v_ineg {x : Int32} (hc : pm_code mi pc = some (.ineg, nx, a, b, c, f)) (k : pm_V sc d mi nx ls (.int (-x) :: st) w Q) : pm_V sc d mi pc ls (.int x :: st) w Q := v_go hc (pm_gi_eq (x := -x)) k
theorem v_i2l {x : Int32} (hc : pm_code mi pc = some (.i2l, nx, a, b, c, f)) (k : pm_V sc d mi nx ls (.long x.toInt64 :: st) w Q) : pm_V sc d mi pc ls (.int x :: st) w Q := v_go hc (pm_gl_eq (x := x.toInt64)) k
theorem v_l2i {x : Int64} (hc : pm_code mi pc = some (.l2i, nx, a, b, c, f)) (k : pm_V sc d mi nx ls (.int x.toInt32 :: st) w Q) : pm_V sc d mi pc ls (.long x :: st) w Q := v_go hc (pm_gi_eq (x := x.toInt32)) k
theorem v_land {x y : Int64} (hc : pm_code mi pc = some (.land, nx, a, b, c, f)) (k : pm_V sc d mi nx ls (.long (x &&& y) :: st) w Q) : pm_V sc d mi pc ls (.long y :: .long x :: st) w Q := v_go hc (pm_gl_eq (x := x &&& y)) k
theorem v_lor {x y : Int64} (hc : pm_code mi pc = some (.lor, nx, a, b, c, f)) (k : pm_V sc d mi nx ls (.long (x ||| y) :: st) w Q) : pm_V sc d mi pc ls (.long y :: .long x :: st) w Q := v_go hc (pm_gl_eq (x := x ||| y)) k
theorem v_lxor {x y : Int64} (hc : pm_code mi pc = some (.lxor, nx, a, b, c, f)) (k : pm_V sc d mi nx ls (.long (x ^^^ y) :: st) w Q) : pm_V sc d mi pc ls (.long y :: .long x :: st) w Q := v_go hc (pm_gl_eq (x := x ^^^ y)) k
theorem v_lshl {x : Int64} {y : Int32} (hc : pm_code mi pc = some (.lshl, nx, a, b, c, f)) (k : pm_V sc d mi nx ls (.long (x <<< (y.toInt64 &&& 63)) :: st) w Q) : pm_V sc d mi pc ls (.int y :: .long x :: st) w Q := v_go hc (pm_gl_eq (x := x <<< (y.toInt64 &&& 63))) k
theorem v_lushr {x : Int64} {y : Int32} (hc : pm_code mi pc = some (.lushr, nx, a, b, c, f)) (k : pm_V sc d mi nx ls (.long (x.toUInt64 >>> (y.toInt64.toUInt64 &&& Int64.toUInt64 63)).toInt64 :: st) w Q) : pm_V sc d mi pc ls (.int y :: .long x :: st) w Q := v_go hc (pm_gl_eq (x := (x.toUInt64 >>> (y.toInt64.toUInt64 &&& Int64.toUInt64 63)).toInt64)) k
theorem v_lcmp {x y : Int64} (hc : pm_code mi pc = some (.lcmp, nx, a, b, c, f)) (k : pm_V sc d mi nx ls (.int (lg_cmp x y) :: st) w Q) : pm_V sc d mi pc ls (.long y :: .long x :: st) w Q := v_go hc (pm_gi_eq (x := lg_cmp x y)) k
theorem v_goto {off : Int} (hc : pm_code mi pc = some (.goto off, nx, a, b, c, f)) (k : pm_V sc d mi a ls st w Q) : pm_V sc d mi pc ls st w Q := v_go hc rfl k
theorem v_br {cd : Jvm.ClassFile.Cond} {off : Int} {x y : Int32} (hc : pm_code mi pc = some (.if_icmp cd off, nx, a, b, c, f)) (kt : pm_icmp cd x y = true → pm_V sc d mi a ls st w Q) (kf : pm_icmp cd x y = false → pm_V sc d mi nx ls st w Q) : pm_V sc d mi pc ls (.int y :: .int x :: st) w Q := by
  cases h : pm_icmp cd x y with
  | true => exact v_go hc (by show (bif pm_icmp cd x y then pm_go a ls st w else pm_go nx ls st w) = _; rw [h]; rfl) (kt h)
  | false => exact v_go hc (by show (bif pm_icmp cd x y then pm_go a ls st w else pm_go nx ls st w) = _; rw [h]; rfl) (kf h)
theorem v_bz {cd : Jvm.ClassFile.Cond} {off : Int} {x : Int32} (hc : pm_code mi pc = some (.ifCond cd off, nx, a, b, c, f)) (kt : pm_icmp cd x 0 = true → pm_V sc d mi a ls st w Q) (kf : pm_icmp cd x 0 = false → pm_V sc d mi nx ls st w Q) : pm_V sc d mi pc ls (.int x :: st) w Q := by
  cases h : pm_icmp cd x 0 with
  | true => exact v_go hc (by show (bif pm_icmp cd x 0 then pm_go a ls st w else pm_go nx ls st w) = _; rw [h]; rfl) (kt h)
  | false => exact v_go hc (by show (bif pm_icmp cd x 0 then pm_go a ls st w else pm_go nx ls st w) = _; rw [h]; rfl) (kf h)
theorem v_icmp_eq {off : Int} {x y : Int32} (hc : pm_code mi pc = some (.if_icmp .eq off, nx, a, b, c, f)) (kt : x = y → pm_V sc d mi a ls st w Q) (kf : ¬ x = y → pm_V sc d mi nx ls st w Q) : pm_V sc d mi pc ls (.int y :: .int x :: st) w Q := v_br hc (fun h => kt (of_decide_eq_true h)) (fun h => kf (of_decide_eq_false h))
theorem v_icmp_ne {off : Int} {x y : Int32} (hc : pm_code mi pc = some (.if_icmp .ne off, nx, a, b, c, f)) (kt : ¬ x = y → pm_V sc d mi a ls st w Q) (kf : x = y → pm_V sc d mi nx ls st w Q) : pm_V sc d mi pc ls (.int y :: .int x :: st) w Q := v_br hc (fun h => kt (by simpa [pm_icmp] using h)) (fun h => kf (by simpa [pm_icmp] using h))
theorem v_icmp_lt {off : Int} {x y : Int32} (hc : pm_code mi pc = some (.if_icmp .lt off, nx, a, b, c, f)) (kt : x < y → pm_V sc d mi a ls st w Q) (kf : ¬ x < y → pm_V sc d mi nx ls st w Q) : pm_V sc d mi pc ls (.int y :: .int x :: st) w Q := v_br hc (fun h => kt (of_decide_eq_true h)) (fun h => kf (of_decide_eq_false h))
theorem v_icmp_ge {off : Int} {x y : Int32} (hc : pm_code mi pc = some (.if_icmp .ge off, nx, a, b, c, f)) (kt : y ≤ x → pm_V sc d mi a ls st w Q) (kf : ¬ y ≤ x → pm_V sc d mi nx ls st w Q) : pm_V sc d mi pc ls (.int y :: .int x :: st) w Q := v_br hc (fun h => kt (of_decide_eq_true h)) (fun h => kf (of_decide_eq_false h))
theorem v_icmp_gt {off : Int} {x y : Int32} (hc : pm_code mi pc = some (.if_icmp .gt off, nx, a, b, c, f)) (kt : y < x → pm_V sc d mi a ls st w Q) (kf : ¬ y < x → pm_V sc d mi nx ls st w Q) : pm_V sc d mi pc ls (.int y :: .int x :: st) w Q := v_br hc (fun h => kt (of_decide_eq_true h)) (fun h => kf (of_decide_eq_false h))
theorem v_icmp_le {off : Int} {x y : Int32} (hc : pm_code mi pc = some (.if_icmp .le off, nx, a, b, c, f)) (kt : x ≤ y → pm_V sc d mi a ls st w Q) (kf : ¬ x ≤ y → pm_V sc d mi nx ls st w Q) : pm_V sc d mi pc ls (.int y :: .int x :: st) w Q := v_br hc (fun h => kt (of_decide_eq_true h)) (fun h => kf (of_decide_eq_false h))
theorem v_if_eq {off : Int} {x : Int32} (hc : pm_code mi pc = some (.ifCond .eq off, nx, a, b, c, f)) (kt : x = 0 → pm_V sc d mi a ls st w Q) (kf : ¬ x = 0 → pm_V sc d mi nx ls st w Q) : pm_V sc d mi pc ls (.int x :: st) w Q := v_bz hc (fun h => kt (of_decide_eq_true h)) (fun h => kf (of_decide_eq_false h))
theorem v_if_ne {off : Int} {x : Int32} (hc : pm_code mi pc = some (.ifCond .ne off, nx, a, b, c, f)) (kt : ¬ x = 0 → pm_V sc d mi a ls st w Q) (kf : x = 0 → pm_V sc d mi nx ls st w Q) : pm_V sc d mi pc ls (.int x :: st) w Q := v_bz hc (fun h => kt (by simpa [pm_icmp] using h)) (fun h => kf (by simpa [pm_icmp] using h))
theorem v_if_lt {off : Int} {x : Int32} (hc : pm_code mi pc = some (.ifCond .lt off, nx, a, b, c, f)) (kt : x < 0 → pm_V sc d mi a ls st w Q) (kf : ¬ x < 0 → pm_V sc d mi nx ls st w Q) : pm_V sc d mi pc ls (.int x :: st) w Q := v_bz hc (fun h => kt (of_decide_eq_true h)) (fun h => kf (of_decide_eq_false h))
theorem v_if_ge {off : Int} {x : Int32} (hc : pm_code mi pc = some (.ifCond .ge off, nx, a, b, c, f)) (kt : 0 ≤ x → pm_V sc d mi a ls st w Q) (kf : ¬ 0 ≤ x → pm_V sc d mi nx ls st w Q) : pm_V sc d mi pc ls (.int x :: st) w Q := v_bz hc (fun h => kt (of_decide_eq_true h)) (fun h => kf (of_decide_eq_false h))
theorem v_if_le {off : Int} {x : Int32} (hc : pm_code mi pc = some (.ifCond .le off, nx, a, b, c, f)) (kt : x ≤ 0 → pm_V sc d mi a ls st w Q) (kf : ¬ x ≤ 0 → pm_V sc d mi nx ls st w Q) : pm_V sc d mi pc ls (.int x :: st) w Q := v_bz hc (fun h => kt (of_decide_eq_true h)) (fun h => kf (of_decide_eq_false h))
theorem v_tabOut {df lo hi : Int} {offs : Array Int} {x : Int32} {t : Nat} (hc : pm_code mi pc = some (.tableswitch df lo hi offs, nx, a, b, c, f)) (h : x.toInt < lo ∨ hi < x.toInt) (ht : (pc : Int) + df = (t : Int)) (k : pm_V sc d mi t ls st w Q) : pm_V sc d mi pc ls (.int x :: st) w Q := v_go hc (by
  show (bif decide (x.toInt < lo) || decide (hi < x.toInt) then pm_jmp pc df ls st w else _) = _
  rw [show (decide (x.toInt < lo) || decide (hi < x.toInt)) = true by simpa using h, cond_true]
  unfold pm_jmp
  rw [ht, decide_eq_false (by omega), cond_false, pm_fn_eq]
  rfl) k
theorem v_tabIn {df lo hi off : Int} {offs : Array Int} {x : Int32} {t : Nat} (hc : pm_code mi pc = some (.tableswitch df lo hi offs, nx, a, b, c, f)) (h1 : ¬ x.toInt < lo) (h2 : ¬ hi < x.toInt) (ho : offs[(x.toInt - lo).toNat]? = some off) (ht : (pc : Int) + off = (t : Int)) (k : pm_V sc d mi t ls st w Q) : pm_V sc d mi pc ls (.int x :: st) w Q := v_go hc (by
  show (bif decide (x.toInt < lo) || decide (hi < x.toInt) then pm_jmp pc df ls st w else match offs[(x.toInt - lo).toNat]? with
    | some off => pm_jmp pc off ls st w
    | none => none) = _
  rw [show (decide (x.toInt < lo) || decide (hi < x.toInt)) = false by simp [h1, h2], cond_false, ho]
  dsimp only
  unfold pm_jmp
  rw [ht, decide_eq_false (by omega), cond_false, pm_fn_eq]
  rfl) k
theorem v_look {df : Int} {ps : Array (Int × Int)} {x : Int32} {t : Nat} (hc : pm_code mi pc = some (.lookupswitch df ps, nx, a, b, c, f)) (ht : (pc : Int) + Op.lookupswitch.offset ps.toList df x.toInt = (t : Int)) (k : pm_V sc d mi t ls st w Q) : pm_V sc d mi pc ls (.int x :: st) w Q := v_go hc (by
  show pm_jmp pc (Op.lookupswitch.offset ps.toList df x.toInt) ls st w = _
  unfold pm_jmp
  rw [ht, decide_eq_false (by omega), cond_false, pm_fn_eq]
  rfl) k
theorem v_iaload {i v : Int32} {q : Nat} {xs : List Int32} (hc : pm_code mi pc = some (.iaload, nx, a, b, c, f)) (hw : w[q]? = some (.inl (0, .inl xs))) (hi : ¬ i < 0) (hv : xs[i.toNatClampNeg]? = some v) (k : pm_V sc d mi nx ls (.int v :: st) w Q) : pm_V sc d mi pc ls (.int i :: .ref q :: st) w Q := v_go hc (by
  show pm_ld 0 nx ls (.int i :: .ref q :: st) w = _
  unfold pm_ld
  dsimp only
  rw [hw]
  dsimp only
  rw [decide_eq_false hi, show (Nat.beq 0 0 && !false) = true from rfl, cond_true, pm_fn_eq, hv]
  rfl) k
theorem v_baload {i v : Int32} {q : Nat} {xs : List Int32} (hc : pm_code mi pc = some (.baload, nx, a, b, c, f)) (hw : w[q]? = some (.inl (1, .inl xs))) (hi : ¬ i < 0) (hv : xs[i.toNatClampNeg]? = some v) (k : pm_V sc d mi nx ls (.int v :: st) w Q) : pm_V sc d mi pc ls (.int i :: .ref q :: st) w Q := v_go hc (by
  show pm_ld 1 nx ls (.int i :: .ref q :: st) w = _
  unfold pm_ld
  dsimp only
  rw [hw]
  dsimp only
  rw [decide_eq_false hi, show (Nat.beq 1 1 && !false) = true from rfl, cond_true, pm_fn_eq, hv]
  rfl) k
theorem v_laload {i : Int32} {v : Int64} {q : Nat} {xs : List Int64} (hc : pm_code mi pc = some (.laload, nx, a, b, c, f)) (hw : w[q]? = some (.inl (2, .inr (.inl xs)))) (hi : ¬ i < 0) (hv : xs[i.toNatClampNeg]? = some v) (k : pm_V sc d mi nx ls (.long v :: st) w Q) : pm_V sc d mi pc ls (.int i :: .ref q :: st) w Q := v_go hc (by
  show pm_lld nx ls (.int i :: .ref q :: st) w = _
  unfold pm_lld
  dsimp only
  rw [hw]
  dsimp only
  rw [decide_eq_false hi, show (Nat.beq 2 2 && !false) = true from rfl, cond_true, pm_fn_eq, hv]
  rfl) k
theorem v_aaload {i : Int32} {v q : Nat} {xs : List (Option Nat)} (hc : pm_code mi pc = some (.aaload, nx, a, b, c, f)) (hw : w[q]? = some (.inl (3, .inr (.inr xs)))) (hi : ¬ i < 0) (hv : xs[i.toNatClampNeg]? = some (some v)) (k : pm_V sc d mi nx ls (.ref v :: st) w Q) : pm_V sc d mi pc ls (.int i :: .ref q :: st) w Q := v_go hc (by
  show pm_ald nx ls (.int i :: .ref q :: st) w = _
  unfold pm_ald
  dsimp only
  rw [hw]
  dsimp only
  rw [decide_eq_false hi, show (Nat.beq 3 3 && !false) = true from rfl, cond_true, pm_fn_eq, hv]
  rfl) k
theorem v_iastore {i x : Int32} {q : Nat} {xs : List Int32} (hc : pm_code mi pc = some (.iastore, nx, a, b, c, f)) (hw : w[q]? = some (.inl (0, .inl xs))) (hi : ¬ i < 0) (hv : i.toNatClampNeg < xs.length) (k : pm_V sc d mi nx ls st (w.set q (.inl (0, .inl (xs.set i.toNatClampNeg x)))) Q) : pm_V sc d mi pc ls (.int x :: .int i :: .ref q :: st) w Q := v_go hc (by
  show pm_st 0 (fun x => x) nx ls (.int x :: .int i :: .ref q :: st) w = _
  unfold pm_st
  dsimp only
  rw [hw]
  dsimp only
  rw [decide_eq_false hi, show (Nat.beq 0 0 && !false) = true from rfl, cond_true, pm_fn_eq, pm_blt_t hv]
  rfl) k
theorem v_bastore {i x : Int32} {q : Nat} {xs : List Int32} (hc : pm_code mi pc = some (.bastore, nx, a, b, c, f)) (hw : w[q]? = some (.inl (1, .inl xs))) (hi : ¬ i < 0) (hv : i.toNatClampNeg < xs.length) (k : pm_V sc d mi nx ls st (w.set q (.inl (1, .inl (xs.set i.toNatClampNeg (vp_nar .boolean x))))) Q) : pm_V sc d mi pc ls (.int x :: .int i :: .ref q :: st) w Q := v_go hc (by
  show pm_st 1 (vp_nar .boolean) nx ls (.int x :: .int i :: .ref q :: st) w = _
  unfold pm_st
  dsimp only
  rw [hw]
  dsimp only
  rw [decide_eq_false hi, show (Nat.beq 1 1 && !false) = true from rfl, cond_true, pm_fn_eq, pm_blt_t hv]
  rfl) k
theorem v_lastore {i : Int32} {x : Int64} {q : Nat} {xs : List Int64} (hc : pm_code mi pc = some (.lastore, nx, a, b, c, f)) (hw : w[q]? = some (.inl (2, .inr (.inl xs)))) (hi : ¬ i < 0) (hv : i.toNatClampNeg < xs.length) (k : pm_V sc d mi nx ls st (w.set q (.inl (2, .inr (.inl (xs.set i.toNatClampNeg x))))) Q) : pm_V sc d mi pc ls (.long x :: .int i :: .ref q :: st) w Q := v_go hc (by
  show pm_lst nx ls (.long x :: .int i :: .ref q :: st) w = _
  unfold pm_lst
  dsimp only
  rw [hw]
  dsimp only
  rw [decide_eq_false hi, show (Nat.beq 2 2 && !false) = true from rfl, cond_true, pm_fn_eq, pm_blt_t hv]
  rfl) k
theorem v_leni {q t : Nat} {xs : List Int32} (hc : pm_code mi pc = some (.arraylength, nx, a, b, c, f)) (hw : w[q]? = some (.inl (t, .inl xs))) (ht : t < 2) (k : pm_V sc d mi nx ls (.int (Int32.ofNat xs.length) :: st) w Q) : pm_V sc d mi pc ls (.ref q :: st) w Q := v_go hc (by
  show pm_len sc nx ls (.ref q :: st) w = _
  unfold pm_len
  dsimp only
  rw [hw]
  dsimp only
  rw [pm_blt_t ht, cond_true]
  exact pm_gi_eq) k
theorem v_lenl {q : Nat} {xs : List Int64} (hc : pm_code mi pc = some (.arraylength, nx, a, b, c, f)) (hw : w[q]? = some (.inl (2, .inr (.inl xs)))) (k : pm_V sc d mi nx ls (.int (Int32.ofNat xs.length) :: st) w Q) : pm_V sc d mi pc ls (.ref q :: st) w Q := v_go hc (by
  show pm_len sc nx ls (.ref q :: st) w = _
  unfold pm_len
  dsimp only
  rw [hw]
  exact pm_gi_eq) k
theorem v_get {i q : Nat} {v : Value} {fs : List Value} (hc : pm_code mi pc = some (.getfield i, nx, a, b, c, f)) (hw : w[q]? = some (.inr (a, fs))) (hv : fs[b]? = some v) (k : pm_V sc d mi nx ls (v :: st) w Q) : pm_V sc d mi pc ls (.ref q :: st) w Q := v_go hc (by
  show pm_get a b nx ls (.ref q :: st) w = _
  unfold pm_get
  dsimp only
  rw [hw]
  dsimp only
  rw [Nat.beq_refl, cond_true, hv]
  rfl) k
theorem v_put {i q : Nat} {v : Value} {fs : List Value} (hc : pm_code mi pc = some (.putfield i, nx, a, b, c, f)) (hw : w[q]? = some (.inr (a, fs))) (ho : pm_okF (pm_ty a b) v = true) (hb : b < fs.length) (k : pm_V sc d mi nx ls st (w.set q (.inr (a, fs.set b v))) Q) : pm_V sc d mi pc ls (v :: .ref q :: st) w Q := v_go hc (by
  show pm_put a b nx ls (v :: .ref q :: st) w = _
  unfold pm_put
  dsimp only
  rw [hw]
  dsimp only
  rw [Nat.beq_refl, ho, pm_blt_t hb]
  rfl) k
theorem v_iret {x : Int32} (hc : pm_code mi pc = some (.ireturn, nx, 0, b, c, f)) (q : Q (some (.int x)) w) : pm_V sc d mi pc ls [.int x] w Q := v_end hc rfl q
theorem v_zret {x : Int32} (hc : pm_code mi pc = some (.ireturn, nx, 1, b, c, f)) (hx : x = 0 ∨ x = 1) (q : Q (some (.int x)) w) : pm_V sc d mi pc ls [.int x] w Q := v_end hc (by rcases hx with rfl | rfl <;> rfl) q
theorem v_ret (hc : pm_code mi pc = some (.return_, nx, a, b, c, f)) (q : Q none w) : pm_V sc d mi pc ls [] w Q := v_end hc rfl q
end PmR
