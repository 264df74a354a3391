theorem pm_iload_inv {nx k : Nat} {ls st : List Value} {w : pm_W} {z : pm_N} (h : pm_iload nx ls k st w = some z) : ∃ x, ls[k]? = some (.int x) ∧ z = .inl (nx, ls, .int x :: st, w, 0, 0) := by
  unfold pm_iload at h
  split at h
  · rename_i x hx; cases h; exact ⟨x, hx, rfl⟩
  · cases h
theorem pm_lload_inv {nx k : Nat} {ls st : List Value} {w : pm_W} {z : pm_N} (h : pm_lload nx ls k st w = some z) : ∃ x, ls[k]? = some (.long x) ∧ z = .inl (nx, ls, .long x :: st, w, 0, 0) := by
  unfold pm_lload at h
  split at h
  · rename_i x hx; cases h; exact ⟨x, hx, rfl⟩
  · cases h
theorem pm_aload_inv {nx k : Nat} {ls st : List Value} {w : pm_W} {z : pm_N} (h : pm_aload nx ls k st w = some z) : ∃ v, ls[k]? = some v ∧ v ≠ .null ∧ (∀ ad b, ∃ q, pm_tr ad b v = .ref q) ∧ z = .inl (nx, ls, v :: st, w, 0, 0) := by
  unfold pm_aload at h
  split at h
  · rename_i x hx; cases h; exact ⟨_, hx, by simp, fun ad b => ⟨_, rfl⟩, rfl⟩
  · rename_i x hx; cases h; exact ⟨_, hx, by simp, fun ad b => ⟨_, rfl⟩, rfl⟩
  · cases h
theorem pm_istore_inv {nx k : Nat} {ls st : List Value} {w : pm_W} {z : pm_N} (h : pm_istore nx ls k st w = some z) : ∃ x r, st = .int x :: r ∧ k < ls.length ∧ z = .inl (nx, pm_s1 ls k (.int x), r, w, 0, 0) := by
  have h_0 := pm_i_inv h
  clear h
  obtain ⟨x, r, rfl, h⟩ := h_0
  cases hb : Nat.blt k ls.length with
  | false => rw [hb] at h; cases h
  | true => rw [hb] at h; cases h; exact ⟨x, r, rfl, pm_blt hb, rfl⟩
theorem pm_lstore_inv {nx k : Nat} {ls st : List Value} {w : pm_W} {z : pm_N} (h : pm_lstore nx ls k st w = some z) : ∃ x r, st = .long x :: r ∧ k + 1 < ls.length ∧ z = .inl (nx, pm_s2 ls k (.long x), r, w, 0, 0) := by
  have h_0 := pm_l_inv h
  clear h
  obtain ⟨x, r, rfl, h⟩ := h_0
  cases hb : Nat.blt (k + 1) ls.length with
  | false => rw [hb] at h; cases h
  | true => rw [hb] at h; cases h; exact ⟨x, r, rfl, pm_blt hb, rfl⟩
theorem pm_astore_inv {nx k : Nat} {ls st : List Value} {w : pm_W} {z : pm_N} (h : pm_astore nx ls k st w = some z) : ∃ x r, st = .ref x :: r ∧ k < ls.length ∧ z = .inl (nx, pm_s1 ls k (.ref x), r, w, 0, 0) := by
  unfold pm_astore at h
  split at h
  · rename_i x r
    cases hb : Nat.blt k ls.length with
    | false => rw [hb] at h; cases h
    | true => rw [hb] at h; cases h; exact ⟨x, r, rfl, pm_blt hb, rfl⟩
  · cases h
theorem pm_iinc_inv {nx k : Nat} {n : Int} {ls st : List Value} {w : pm_W} {z : pm_N} (h : pm_iinc nx ls k n st w = some z) : ∃ x, ls[k]? = some (.int x) ∧ z = .inl (nx, pm_s1 ls k (.int (x + Int32.ofInt n)), st, w, 0, 0) := by
  unfold pm_iinc at h
  split at h
  · rename_i x hx
    rw [pm_fi_eq] at h
    cases h
    exact ⟨x, hx, rfl⟩
  · cases h
theorem pm_jmp_inv {pc : Nat} {off : Int} {ls st : List Value} {w : pm_W} {z : pm_N} (h : pm_jmp pc off ls st w = some z) : ∃ t : Nat, (pc : Int) + off = (t : Int) ∧ z = .inl (t, ls, st, w, 0, 0) := by
  unfold pm_jmp at h
  cases hb : decide ((pc : Int) + off < 0) with
  | true => rw [hb] at h; cases h
  | false =>
    rw [hb] at h
    rw [cond_false, pm_fn_eq] at h
    cases h
    have := of_decide_eq_false hb
    exact ⟨_, by omega, rfl⟩
theorem pm_bif {α : Type} {b : Bool} {x : Option α} {z : α} (h : (bif b then x else none) = some z) : b = true ∧ x = some z := by
  cases b with
  | true => exact ⟨rfl, h⟩
  | false => cases h
theorem pm_bifn {α : Type} {b : Bool} {x : Option α} {z : α} (h : (bif b then none else x) = some z) : b = false ∧ x = some z := by
  cases b with
  | false => exact ⟨rfl, h⟩
  | true => cases h
theorem pm_ld_inv {t nx : Nat} {ls st : List Value} {w : pm_W} {z : pm_N} (h : pm_ld t nx ls st w = some z) : ∃ i q r xs v, st = .int i :: .ref q :: r ∧ w[q]? = some (.inl (t, .inl xs)) ∧ ¬ i < 0 ∧ xs[i.toNatClampNeg]? = some v ∧ z = .inl (nx, ls, .int v :: r, w, 0, 0) := by
  unfold pm_ld at h
  split at h
  · rename_i i q r
    split at h
    · rename_i t' xs hw
      have h_0 := pm_bif h
      clear h
      obtain ⟨hb, h⟩ := h_0
      simp only [Bool.and_eq_true, Bool.not_eq_true', decide_eq_false_iff_not] at hb
      obtain ⟨h1, h2⟩ := hb
      have e := Nat.eq_of_beq_eq_true h1
      subst e
      rw [pm_fn_eq] at h
      split at h
      · rename_i v hv
        cases h
        exact ⟨i, q, r, xs, v, rfl, hw, h2, hv, rfl⟩
      · cases h
    · cases h
  · cases h
theorem pm_sld_inv {sc : pm_S} {nx : Nat} {ls st : List Value} {w : pm_W} {z : pm_N} (h : pm_sld sc nx ls st w = some z) : (∃ i p r L xs, st = .int i :: .retAddr p :: r ∧ sc = some (L, xs) ∧ ¬ i < 0 ∧ i.toNatClampNeg < L ∧ z = .inl (nx, ls, .int (xs i.toNatClampNeg) :: r, w, 0, 0)) ∨ pm_ld 0 nx ls st w = some z := by
  unfold pm_sld at h
  split at h
  · rename_i i p r
    split at h
    · rename_i L xs
      have h_0 := pm_bif h
      clear h
      obtain ⟨hb, h⟩ := h_0
      simp only [Bool.and_eq_true, Bool.not_eq_true', decide_eq_false_iff_not] at hb
      cases h
      exact Or.inl ⟨i, p, r, L, xs, rfl, rfl, hb.1, pm_blt hb.2, rfl⟩
    · cases h
  · exact Or.inr h
theorem pm_lld_inv {nx : Nat} {ls st : List Value} {w : pm_W} {z : pm_N} (h : pm_lld nx ls st w = some z) : ∃ i q r xs v, st = .int i :: .ref q :: r ∧ w[q]? = some (.inl (2, .inr (.inl xs))) ∧ ¬ i < 0 ∧ xs[i.toNatClampNeg]? = some v ∧ z = .inl (nx, ls, .long v :: r, w, 0, 0) := by
  unfold pm_lld at h
  split at h
  · rename_i i q r
    split at h
    · rename_i t' xs hw
      have h_0 := pm_bif h
      clear h
      obtain ⟨hb, h⟩ := h_0
      simp only [Bool.and_eq_true, Bool.not_eq_true', decide_eq_false_iff_not] at hb
      obtain ⟨h1, h2⟩ := hb
      have e := Nat.eq_of_beq_eq_true h1
      subst e
      rw [pm_fn_eq] at h
      split at h
      · rename_i v hv
        cases h
        exact ⟨i, q, r, xs, v, rfl, hw, h2, hv, rfl⟩
      · cases h
    · cases h
  · cases h
theorem pm_ald_inv {nx : Nat} {ls st : List Value} {w : pm_W} {z : pm_N} (h : pm_ald nx ls st w = some z) : ∃ i q r xs v, st = .int i :: .ref q :: r ∧ w[q]? = some (.inl (3, .inr (.inr xs))) ∧ ¬ i < 0 ∧ xs[i.toNatClampNeg]? = some (some v) ∧ z = .inl (nx, ls, .ref v :: r, w, 0, 0) := by
  unfold pm_ald at h
  split at h
  · rename_i i q r
    split at h
    · rename_i t' xs hw
      have h_0 := pm_bif h
      clear h
      obtain ⟨hb, h⟩ := h_0
      simp only [Bool.and_eq_true, Bool.not_eq_true', decide_eq_false_iff_not] at hb
      obtain ⟨h1, h2⟩ := hb
      have e := Nat.eq_of_beq_eq_true h1
      subst e
      rw [pm_fn_eq] at h
      split at h
      · rename_i v hv
        cases h
        exact ⟨i, q, r, xs, v, rfl, hw, h2, hv, rfl⟩
      · cases h
    · cases h
  · cases h
theorem pm_st_inv {t nx : Nat} {f : Int32 → Int32} {ls st : List Value} {w : pm_W} {z : pm_N} (h : pm_st t f nx ls st w = some z) : ∃ x i q r xs, st = .int x :: .int i :: .ref q :: r ∧ w[q]? = some (.inl (t, .inl xs)) ∧ ¬ i < 0 ∧ i.toNatClampNeg < xs.length ∧ z = .inl (nx, ls, r, w.set q (.inl (t, .inl (xs.set i.toNatClampNeg (f x)))), 0, 0) := by
  unfold pm_st at h
  split at h
  · rename_i x i q r
    split at h
    · rename_i t' xs hw
      have h_0 := pm_bif h
      clear h
      obtain ⟨hb, h⟩ := h_0
      simp only [Bool.and_eq_true, Bool.not_eq_true', decide_eq_false_iff_not] at hb
      obtain ⟨h1, h2⟩ := hb
      have e := Nat.eq_of_beq_eq_true h1
      subst e
      rw [pm_fn_eq] at h
      have h_0 := pm_bif h
      clear h
      obtain ⟨hk, h⟩ := h_0
      cases h
      exact ⟨x, i, q, r, xs, rfl, hw, h2, pm_blt hk, rfl⟩
    · cases h
  · cases h
theorem pm_lst_inv {nx : Nat} {ls st : List Value} {w : pm_W} {z : pm_N} (h : pm_lst nx ls st w = some z) : ∃ x i q r xs, st = .long x :: .int i :: .ref q :: r ∧ w[q]? = some (.inl (2, .inr (.inl xs))) ∧ ¬ i < 0 ∧ i.toNatClampNeg < xs.length ∧ z = .inl (nx, ls, r, w.set q (.inl (2, .inr (.inl (xs.set i.toNatClampNeg x)))), 0, 0) := by
  unfold pm_lst at h
  split at h
  · rename_i x i q r
    split at h
    · rename_i t' xs hw
      have h_0 := pm_bif h
      clear h
      obtain ⟨hb, h⟩ := h_0
      simp only [Bool.and_eq_true, Bool.not_eq_true', decide_eq_false_iff_not] at hb
      obtain ⟨h1, h2⟩ := hb
      have e := Nat.eq_of_beq_eq_true h1
      subst e
      rw [pm_fn_eq] at h
      have h_0 := pm_bif h
      clear h
      obtain ⟨hk, h⟩ := h_0
      cases h
      exact ⟨x, i, q, r, xs, rfl, hw, h2, pm_blt hk, rfl⟩
    · cases h
  · cases h
theorem pm_ast_inv {nx : Nat} {ls st : List Value} {w : pm_W} {z : pm_N} (h : pm_ast nx ls st w = some z) : ∃ v i q r xs fs, st = .ref v :: .int i :: .ref q :: r ∧ w[q]? = some (.inl (3, .inr (.inr xs))) ∧ w[v]? = some (.inr (1, fs)) ∧ ¬ i < 0 ∧ i.toNatClampNeg < xs.length ∧ z = .inl (nx, ls, r, w.set q (.inl (3, .inr (.inr (xs.set i.toNatClampNeg (some v))))), 0, 0) := by
  unfold pm_ast at h
  split at h
  · rename_i v i q r
    split at h
    · rename_i t' xs ci fs hw hv
      have h_0 := pm_bif h
      clear h
      obtain ⟨hb, h⟩ := h_0
      simp only [Bool.and_eq_true, Bool.not_eq_true', decide_eq_false_iff_not] at hb
      obtain ⟨⟨h1, h1'⟩, h2⟩ := hb
      have e := Nat.eq_of_beq_eq_true h1
      subst e
      have e := Nat.eq_of_beq_eq_true h1'
      subst e
      rw [pm_fn_eq] at h
      have h_0 := pm_bif h
      clear h
      obtain ⟨hk, h⟩ := h_0
      cases h
      exact ⟨v, i, q, r, xs, fs, rfl, hw, hv, h2, pm_blt hk, rfl⟩
    · cases h
  · cases h
theorem pm_len_inv {sc : pm_S} {nx : Nat} {ls st : List Value} {w : pm_W} {z : pm_N} (h : pm_len sc nx ls st w = some z) : (∃ p r L xs, st = .retAddr p :: r ∧ sc = some (L, xs) ∧ z = .inl (nx, ls, .int (Int32.ofNat L) :: r, w, 0, 0)) ∨ (∃ q r t A, t < 3 ∧ st = .ref q :: r ∧ w[q]? = some (.inl (t, A)) ∧ ((∃ xs, A = .inl xs ∧ t < 2 ∧ z = .inl (nx, ls, .int (Int32.ofNat xs.length) :: r, w, 0, 0)) ∨ (∃ xs, A = .inr (.inl xs) ∧ t = 2 ∧ z = .inl (nx, ls, .int (Int32.ofNat xs.length) :: r, w, 0, 0)))) := by
  unfold pm_len at h
  split at h
  · rename_i p r
    split at h
    · rename_i L xs
      rw [pm_gi_eq] at h
      cases h
      exact Or.inl ⟨p, r, L, xs, rfl, rfl, rfl⟩
    · cases h
  · rename_i q r
    split at h
    · rename_i t xs hw
      have h_0 := pm_bif h
      clear h
      obtain ⟨hb, h⟩ := h_0
      rw [pm_gi_eq] at h
      cases h
      have := pm_blt hb
      exact Or.inr ⟨q, r, t, _, by omega, rfl, hw, Or.inl ⟨xs, rfl, this, rfl⟩⟩
    · rename_i t xs hw
      have h_0 := pm_bif h
      clear h
      obtain ⟨hb, h⟩ := h_0
      rw [pm_gi_eq] at h
      cases h
      have := Nat.eq_of_beq_eq_true hb
      exact Or.inr ⟨q, r, t, _, by omega, rfl, hw, Or.inr ⟨xs, rfl, this, rfl⟩⟩
    · cases h
  · cases h
theorem pm_copy_inv {nx : Nat} {ls st : List Value} {w : pm_W} {z : pm_N} (h : pm_copy nx ls st w = some z) : ∃ n dp q sp p r, st = .int n :: .int dp :: .ref q :: .int sp :: .ref p :: r ∧ ¬ n < 0 ∧ ¬ dp < 0 ∧ ¬ sp < 0 ∧ pm_cat r ≤ 8 ∧
    ((∃ xs ys, w[p]? = some (.inl (0, .inl xs)) ∧ w[q]? = some (.inl (0, .inl ys)) ∧ sp.toNatClampNeg + n.toNatClampNeg ≤ xs.length ∧ dp.toNatClampNeg + n.toNatClampNeg ≤ ys.length ∧ z = .inl (nx, ls, r, w.set q (.inl (0, .inl (pm_cpy xs ys sp.toNatClampNeg dp.toNatClampNeg n.toNatClampNeg))), 0, 0)) ∨
     (∃ xs ys, w[p]? = some (.inl (2, .inr (.inl xs))) ∧ w[q]? = some (.inl (2, .inr (.inl ys))) ∧ sp.toNatClampNeg + n.toNatClampNeg ≤ xs.length ∧ dp.toNatClampNeg + n.toNatClampNeg ≤ ys.length ∧ z = .inl (nx, ls, r, w.set q (.inl (2, .inr (.inl (pm_cpy xs ys sp.toNatClampNeg dp.toNatClampNeg n.toNatClampNeg)))), 0, 0))) := by
  unfold pm_copy at h
  split at h
  · rename_i n dp q sp p r
    have h_0 := pm_bifn h
    clear h
    obtain ⟨hb, h⟩ := h_0
    simp only [Bool.or_eq_false_iff, decide_eq_false_iff_not] at hb
    obtain ⟨⟨⟨⟨h1, h2⟩, h3⟩, h4⟩, h5⟩ := hb
    have h5 : pm_cat r ≤ 8 := by
      rcases Nat.lt_or_ge 8 (pm_cat r) with hq | hq
      · have : Nat.blt 8 (pm_cat r) = true := Nat.ble_eq_true_of_le hq
        rw [show Nat.blt 8 (pm_cat r) = false from h5] at this
        cases this
      · exact hq
    refine ⟨n, dp, q, sp, p, r, rfl, h1, h2, h3, h5, ?_⟩
    split at h
    · rename_i t xs t' ys hp hq
      have h_0 := pm_bif h
      clear h
      obtain ⟨hb, h⟩ := h_0
      simp only [Bool.and_eq_true] at hb
      obtain ⟨⟨⟨g1, g2⟩, g3⟩, g4⟩ := hb
      have e := Nat.eq_of_beq_eq_true g1
      subst e
      have e := Nat.eq_of_beq_eq_true g2
      subst e
      cases h
      exact Or.inl ⟨xs, ys, hp, hq, Nat.le_of_ble_eq_true g3, Nat.le_of_ble_eq_true g4, rfl⟩
    · rename_i t xs t' ys hp hq
      have h_0 := pm_bif h
      clear h
      obtain ⟨hb, h⟩ := h_0
      simp only [Bool.and_eq_true] at hb
      obtain ⟨⟨⟨g1, g2⟩, g3⟩, g4⟩ := hb
      have e := Nat.eq_of_beq_eq_true g1
      subst e
      have e := Nat.eq_of_beq_eq_true g2
      subst e
      cases h
      exact Or.inr ⟨xs, ys, hp, hq, Nat.le_of_ble_eq_true g3, Nat.le_of_ble_eq_true g4, rfl⟩
    · cases h
  · cases h
theorem pm_get_inv {a b nx : Nat} {ls st : List Value} {w : pm_W} {z : pm_N} (h : pm_get a b nx ls st w = some z) : ∃ q r fs v, st = .ref q :: r ∧ w[q]? = some (.inr (a, fs)) ∧ fs[b]? = some v ∧ z = .inl (nx, ls, v :: r, w, 0, 0) := by
  unfold pm_get at h
  split at h
  · rename_i q r
    split at h
    · rename_i ci fs hw
      have h_0 := pm_bif h
      clear h
      obtain ⟨hb, h⟩ := h_0
      have e := Nat.eq_of_beq_eq_true hb
      subst e
      split at h
      · rename_i v hv
        cases h
        exact ⟨q, r, fs, v, rfl, hw, hv, rfl⟩
      · cases h
    · cases h
  · cases h
theorem pm_put_inv {a b nx : Nat} {ls st : List Value} {w : pm_W} {z : pm_N} (h : pm_put a b nx ls st w = some z) : ∃ v q r fs, st = v :: .ref q :: r ∧ w[q]? = some (.inr (a, fs)) ∧ pm_okF (pm_ty a b) v = true ∧ b < fs.length ∧ z = .inl (nx, ls, r, w.set q (.inr (a, fs.set b v)), 0, 0) := by
  unfold pm_put at h
  split at h
  · rename_i v q r
    split at h
    · rename_i ci fs hw
      have h_0 := pm_bif h
      clear h
      obtain ⟨hb, h⟩ := h_0
      simp only [Bool.and_eq_true] at hb
      obtain ⟨⟨g1, g2⟩, g3⟩ := hb
      have e := Nat.eq_of_beq_eq_true g1
      subst e
      cases h
      exact ⟨v, q, r, fs, rfl, hw, g2, pm_blt g3, rfl⟩
    · cases h
  · cases h
theorem pm_new_inv {a N nx : Nat} {ls st : List Value} {w : pm_W} {z : pm_N} (h : pm_new a N nx ls st w = some z) : pm_okW w = true ∧ pm_okl w.length ls = true ∧ pm_okl w.length st = true ∧ z = .inl (nx, ls, .ref w.length :: st, w ++ [.inr (a, pm_dfl a N)], 1, N) := by
  unfold pm_new at h
  have h_0 := pm_bif h
  clear h
  obtain ⟨hb, h⟩ := h_0
  simp only [Bool.and_eq_true] at hb
  cases h
  exact ⟨hb.1.1, hb.1.2, hb.2, rfl⟩
theorem pm_newa_inv {t nx : Nat} {ls st : List Value} {w : pm_W} {z : pm_N} (h : pm_newa t nx ls st w = some z) : ∃ n r, st = .int n :: r ∧ pm_okW w = true ∧ pm_okl w.length ls = true ∧ pm_okl w.length r = true ∧ ¬ n < 0 ∧ n.toNatClampNeg ≤ 4096 ∧ z = .inl (nx, ls, .ref w.length :: r, w ++ [.inl (t, pm_mk t n.toNatClampNeg)], 1, n.toNatClampNeg) := by
  have h_0 := pm_i_inv h
  clear h
  obtain ⟨n, r, rfl, h⟩ := h_0
  have h_0 := pm_bif h
  clear h
  obtain ⟨hb, h⟩ := h_0
  simp only [Bool.and_eq_true, Bool.not_eq_true', decide_eq_false_iff_not] at hb
  obtain ⟨⟨⟨⟨g1, g2⟩, g3⟩, g4⟩, g5⟩ := hb
  rw [pm_fn_eq] at h
  cases h
  have g3 : (Value.int n :: r).all (pm_okv w.length) = true := g3
  rw [List.all_cons, Bool.and_eq_true] at g3
  exact ⟨n, r, rfl, g1, g2, g3.2, g4, Nat.le_of_ble_eq_true g5, rfl⟩
theorem pm_obj_inv {nx : Nat} {ls st : List Value} {w : pm_W} {z : pm_N} (h : pm_obj nx ls st w = some z) : ∃ q r, st = .ref q :: r ∧ pm_cat r ≤ 8 ∧ z = .inl (nx, ls, r, w, 0, 0) := by
  unfold pm_obj at h
  split at h
  · rename_i q r
    have h_0 := pm_bif h
    clear h
    obtain ⟨hb, h⟩ := h_0
    cases h
    exact ⟨q, r, rfl, Nat.le_of_ble_eq_true hb, rfl⟩
  · cases h

