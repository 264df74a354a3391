theorem pm_go_inv {nx : Nat} {ls st : List Value} {w : pm_W} {z : pm_N} (h : pm_go nx ls st w = some z) : z = .inl (nx, ls, st, w, 0, 0) := (Option.some.inj h).symm
theorem pm_gi_inv {nx : Nat} {ls st : List Value} {x : Int32} {w : pm_W} {z : pm_N} (h : pm_gi nx ls x st w = some z) : z = .inl (nx, ls, .int x :: st, w, 0, 0) := by
  rw [pm_gi_eq] at h
  exact (Option.some.inj h).symm
theorem pm_gl_inv {nx : Nat} {ls st : List Value} {x : Int64} {w : pm_W} {z : pm_N} (h : pm_gl nx ls x st w = some z) : z = .inl (nx, ls, .long x :: st, w, 0, 0) := by
  rw [pm_gl_eq] at h
  exact (Option.some.inj h).symm
def pm_T (U : State) : Prop := (∀ (a : String) (i : Nat) (x : MethodName) (h : String), Cond.methodLinkNest a i x h ∈ lw_tbl → va_Nw (.methodLinkNest a i x h) U) ∧ va_AO "DrawLooms$Beam" U
/-- what holds all through a method's run: the machine, its code, the tables, the script at bb -/
def pm_X (p : Program) (s : State) (m : MethodId) (args : Array Value) (meth : Method) (c : Code) (D : va_G) (K : pm_K4) (base bb : Nat) (sc : pm_S) (M : pm_M) : Prop :=
  p.tables.exec = Jvm.exec ∧ c.code = M.2.1 ∧ c.maxLocals = M.2.2.1 ∧ s.vm.findClass (pm_nm M.2.2.2.2.1) = some m.cls ∧ (∀ w ∈ pm_ws, w.before args s = true) ∧ va_K D vwCl (pm_tys K) s ∧ (∀ L xs, sc = some (L, xs) → va_X bb L xs s s.heap) ∧ bb < base ∧ base ≤ s.heap.size ∧ pm_T s ∧ (M.1.name = "<init>" → meth.name = "<init>")
/-- the world at a point of it -/
def pm_P (D : va_G) (K : pm_K4) (base bb : Nat) (ad : Nat → Nat) (w : pm_W) (s : State) (H : Heap) (locs : List Loc) : Prop := va_P D vwCl (pm_rw K ad bb w) H ∧ va_D (fun q => base ≤ q) (pm_rw K ad bb w) ∧ va_S (fun q => base ≤ q) s.heap H locs
theorem pm_vin {i : Int32} {n : Nat} (h1 : ¬ i < 0) (h2 : i.toNatClampNeg < n) : vp_in i n := fun h => h.elim h1 (fun h => absurd h2 (Nat.not_lt.mpr h))
theorem pm_getD {α : Type} {xs : List α} {k : Nat} {v d : α} (h : xs[k]? = some v) : xs.getD k d = v := by simp [List.getD, h]
theorem pm_upd {xs : List Int32} {k : Nat} {x : Int32} (h : k < xs.length) : upd (fun j => xs.getD j 0) k x = fun j => (xs.set k x).getD j 0 := by
  funext j
  by_cases e : j = k
  · subst e
    simp [upd, List.getD, h]
  · simp [upd, List.getD, e, List.getElem?_set_ne (Ne.symm e)]
theorem pm_updL {xs : List Int64} {k : Nat} {x : Int64} (h : k < xs.length) : vp_updL (fun j => xs.getD j 0) k x = fun j => (xs.set k x).getD j 0 := by
  funext j
  by_cases e : j = k
  · subst e
    simp [vp_updL, List.getD, h]
  · simp [vp_updL, List.getD, e, List.getElem?_set_ne (Ne.symm e)]
theorem pm_updA {xs : List (Option Nat)} {k v : Nat} {ad : Nat → Nat} (h : k < xs.length) : va_up (fun j => (xs.getD j none).map ad) k (some (ad v)) = fun j => ((xs.set k (some v)).getD j none).map ad := by
  funext j
  by_cases e : j = k
  · subst e
    simp [va_up, List.getD, h]
  · simp [va_up, List.getD, e, List.getElem?_set_ne (Ne.symm e)]
theorem pm_cpy_len {α : Type} (xs ys : List α) (sp dp n : Nat) (h1 : sp + n ≤ xs.length) (h2 : dp + n ≤ ys.length) : (pm_cpy xs ys sp dp n).length = ys.length := by
  simp [pm_cpy]
  omega
theorem pm_cpy_at {α : Type} (xs ys : List α) (sp dp n : Nat) (h1 : sp + n ≤ xs.length) (h2 : dp + n ≤ ys.length) (d : α) : va_cpy (fun j => xs.getD j d) (fun j => ys.getD j d) sp dp n = fun j => (pm_cpy xs ys sp dp n).getD j d := by
  funext j
  unfold va_cpy pm_cpy
  simp only [List.getD]
  by_cases h : j < dp
  · rw [if_neg (by omega), List.append_assoc, List.getElem?_append_left (by simp; omega), List.getElem?_take_of_lt h]
  · by_cases h' : j < dp + n
    · rw [if_pos ⟨by omega, h'⟩, List.append_assoc, List.getElem?_append_right (by simp; omega), List.getElem?_append_left (by simp; omega)]
      simp only [List.length_take]
      rw [List.getElem?_take_of_lt (by omega), List.getElem?_drop]
      congr 3
      omega
    · rw [if_neg (by omega), List.getElem?_append_right (by simp; omega), List.getElem?_drop]
      simp only [List.length_append, List.length_take, List.length_drop]
      congr 2
      omega
theorem pm_okc_998 {o i k b c d p : Nat} (h : pm_okc (o, i, k, 998, b, c, d, p) = true) : pm_at p (.methodLink (pm_nm o) i objectInit) = true := by
  simp only [pm_okc, Nat.reduceBEq, cond_true, cond_false, Bool.and_eq_true] at h
  exact h.2
theorem pm_okc_999 {o i k b c d p : Nat} (h : pm_okc (o, i, k, 999, b, c, d, p) = true) : pm_at p (.methodLink (pm_nm o) i arraycopyName) = true := by
  simp only [pm_okc, Nat.reduceBEq, cond_true, cond_false, Bool.and_eq_true] at h
  exact h.2
theorem pm_okc_997 {o i k b c d p : Nat} (h : pm_okc (o, i, k, 997, b, c, d, p) = true) : pm_at p (.methodLink (pm_nm o) i Lib.Math.max.name) = true := by
  simp only [pm_okc, Nat.reduceBEq, cond_true, cond_false, Bool.and_eq_true] at h
  exact h.2
theorem pm_okc_996 {o i k b c d p : Nat} (h : pm_okc (o, i, k, 996, b, c, d, p) = true) : pm_at p (.methodLink (pm_nm o) i Lib.Math.min.name) = true := by
  simp only [pm_okc, Nat.reduceBEq, cond_true, cond_false, Bool.and_eq_true] at h
  exact h.2
section PmStep
variable {p : Program} {l : Launch} {e : Env} {R : Room} {s : State} {m : MethodId} {args : Array Value} {below : List Frame} {meth : Method} {c : Code} {H : Heap} {locs : List Loc} {cells slots : Nat} {Q : State → Prop}
variable {D : va_G} {K : pm_K4} {base bb : Nat} {sc : pm_S} {M : pm_M} {ad : Nat → Nat} {w w' : pm_W} {ls ls' st st' : List Value} {rls : Array Slot} {pc pc' c2 s2 dd : Nat} {en : pm_E}
/-- a cell that is written: the world behind it -/
theorem pm_P.put {q : Nat} {cl cl' : pm_C} {H1 : Heap} {locs1 : List Loc} (E : va_E) (he : pm_ce K ad bb cl' = E) (h1 : va_P D vwCl ((pm_rw K ad bb w).set q (ad q, E)) H1) (h2 : va_D (fun q => base ≤ q) ((pm_rw K ad bb w).set q (ad q, E))) (h3 : va_S (fun q => base ≤ q) s.heap H1 locs1) : pm_P D K base bb ad (w.set q cl') s H1 locs1 := by
  subst he
  rw [pm_rw_set] at h1 h2
  exact ⟨h1, h2, h3⟩
theorem pm_tys0 : (pm_tys K)[0]? = some (pm_cid K 0, .int) := rfl
theorem pm_tys1 : (pm_tys K)[1]? = some (pm_cid K 1, .boolean) := rfl
theorem pm_tys2 : (pm_tys K)[2]? = some (pm_cid K 2, .long) := rfl
theorem pm_tys3 : (pm_tys K)[3]? = some (pm_cid K 3, .object "DrawLooms$Beam") := rfl
set_option maxHeartbeats 4000000 in
theorem pm_snd_iconst {nx a b c1 d : Nat} {n : Int} (X : pm_X p s m args meth c D K base bb sc M) (hc : pm_chk M.1 M.2.1 M.2.2.2.1 M.2.2.2.2.1 pc ((.iconst n), nx, a, b, c1, d) = true) (P : pm_P D K base bb ad w s H locs) (L : pm_L ad bb rls ls) (hL : ls.length = M.2.2.1) (hdd : dd ≤ R.frames ∧ 64 * dd ≤ R.locals) (hR : cells + c2 ≤ R.cells ∧ slots + s2 ≤ R.slots)
    (hx : pm_x sc dd ((.iconst n), nx, a, b, c1, d) pc ls st w = some (.inl (pc', ls', st', w', c2, s2)))
    (kk : ∀ (ad' : Nat → Nat) (H' : Heap) (locs' : List Loc) (rls' : Array Slot), (∀ i, i < w.length → ad' i = ad i) → (c2 = 0 → ad' = ad) → pm_P D K base bb ad' w' s H' locs' → pm_L ad' bb rls' ls' → W p l e R s m args below meth c H' locs' (cells + c2) (slots + s2) Q (F0 m pc' rls' (st'.map (pm_tr ad' bb)))) :
    W p l e R s m args below meth c H locs cells slots Q (F0 m pc rls (st.map (pm_tr ad bb))) := by
  obtain ⟨hx0, hb, hml, hown, hts, hK, hX, hbb, hbs, hT, hnm⟩ := X
  obtain ⟨h1, h2⟩ := pm_chk_1 hc
  have hA : ∀ q : Nat, s.heap.size ≤ q → (fun q : Nat => base ≤ q) q := fun q h => Nat.le_trans hbs h
  obtain ⟨rfl, hd⟩ := pm_dec1 (k := 1) h1 h2
  cases pm_go_inv hx
  exact lv_iconst hx0 hb hd rfl (kk ad H locs rls (fun _ _ => rfl) (fun _ => rfl) P L)
set_option maxHeartbeats 4000000 in
theorem pm_snd_bipush {nx a b c1 d : Nat} {n : Int} (X : pm_X p s m args meth c D K base bb sc M) (hc : pm_chk M.1 M.2.1 M.2.2.2.1 M.2.2.2.2.1 pc ((.bipush n), nx, a, b, c1, d) = true) (P : pm_P D K base bb ad w s H locs) (L : pm_L ad bb rls ls) (hL : ls.length = M.2.2.1) (hdd : dd ≤ R.frames ∧ 64 * dd ≤ R.locals) (hR : cells + c2 ≤ R.cells ∧ slots + s2 ≤ R.slots)
    (hx : pm_x sc dd ((.bipush n), nx, a, b, c1, d) pc ls st w = some (.inl (pc', ls', st', w', c2, s2)))
    (kk : ∀ (ad' : Nat → Nat) (H' : Heap) (locs' : List Loc) (rls' : Array Slot), (∀ i, i < w.length → ad' i = ad i) → (c2 = 0 → ad' = ad) → pm_P D K base bb ad' w' s H' locs' → pm_L ad' bb rls' ls' → W p l e R s m args below meth c H' locs' (cells + c2) (slots + s2) Q (F0 m pc' rls' (st'.map (pm_tr ad' bb)))) :
    W p l e R s m args below meth c H locs cells slots Q (F0 m pc rls (st.map (pm_tr ad bb))) := by
  obtain ⟨hx0, hb, hml, hown, hts, hK, hX, hbb, hbs, hT, hnm⟩ := X
  obtain ⟨h1, h2⟩ := pm_chk_1 hc
  have hA : ∀ q : Nat, s.heap.size ≤ q → (fun q : Nat => base ≤ q) q := fun q h => Nat.le_trans hbs h
  obtain ⟨rfl, hd⟩ := pm_dec1 (k := 2) h1 h2
  cases pm_go_inv hx
  exact lv_bipush hx0 hb hd rfl (kk ad H locs rls (fun _ _ => rfl) (fun _ => rfl) P L)
set_option maxHeartbeats 4000000 in
theorem pm_snd_sipush {nx a b c1 d : Nat} {n : Int} (X : pm_X p s m args meth c D K base bb sc M) (hc : pm_chk M.1 M.2.1 M.2.2.2.1 M.2.2.2.2.1 pc ((.sipush n), nx, a, b, c1, d) = true) (P : pm_P D K base bb ad w s H locs) (L : pm_L ad bb rls ls) (hL : ls.length = M.2.2.1) (hdd : dd ≤ R.frames ∧ 64 * dd ≤ R.locals) (hR : cells + c2 ≤ R.cells ∧ slots + s2 ≤ R.slots)
    (hx : pm_x sc dd ((.sipush n), nx, a, b, c1, d) pc ls st w = some (.inl (pc', ls', st', w', c2, s2)))
    (kk : ∀ (ad' : Nat → Nat) (H' : Heap) (locs' : List Loc) (rls' : Array Slot), (∀ i, i < w.length → ad' i = ad i) → (c2 = 0 → ad' = ad) → pm_P D K base bb ad' w' s H' locs' → pm_L ad' bb rls' ls' → W p l e R s m args below meth c H' locs' (cells + c2) (slots + s2) Q (F0 m pc' rls' (st'.map (pm_tr ad' bb)))) :
    W p l e R s m args below meth c H locs cells slots Q (F0 m pc rls (st.map (pm_tr ad bb))) := by
  obtain ⟨hx0, hb, hml, hown, hts, hK, hX, hbb, hbs, hT, hnm⟩ := X
  obtain ⟨h1, h2⟩ := pm_chk_1 hc
  have hA : ∀ q : Nat, s.heap.size ≤ q → (fun q : Nat => base ≤ q) q := fun q h => Nat.le_trans hbs h
  obtain ⟨rfl, hd⟩ := pm_dec1 (k := 3) h1 h2
  cases pm_go_inv hx
  exact lv_sipush hx0 hb hd rfl (kk ad H locs rls (fun _ _ => rfl) (fun _ => rfl) P L)
set_option maxHeartbeats 4000000 in
theorem pm_snd_lconst {nx a b c1 d : Nat} {n : Fin 2} (X : pm_X p s m args meth c D K base bb sc M) (hc : pm_chk M.1 M.2.1 M.2.2.2.1 M.2.2.2.2.1 pc ((.lconst n), nx, a, b, c1, d) = true) (P : pm_P D K base bb ad w s H locs) (L : pm_L ad bb rls ls) (hL : ls.length = M.2.2.1) (hdd : dd ≤ R.frames ∧ 64 * dd ≤ R.locals) (hR : cells + c2 ≤ R.cells ∧ slots + s2 ≤ R.slots)
    (hx : pm_x sc dd ((.lconst n), nx, a, b, c1, d) pc ls st w = some (.inl (pc', ls', st', w', c2, s2)))
    (kk : ∀ (ad' : Nat → Nat) (H' : Heap) (locs' : List Loc) (rls' : Array Slot), (∀ i, i < w.length → ad' i = ad i) → (c2 = 0 → ad' = ad) → pm_P D K base bb ad' w' s H' locs' → pm_L ad' bb rls' ls' → W p l e R s m args below meth c H' locs' (cells + c2) (slots + s2) Q (F0 m pc' rls' (st'.map (pm_tr ad' bb)))) :
    W p l e R s m args below meth c H locs cells slots Q (F0 m pc rls (st.map (pm_tr ad bb))) := by
  obtain ⟨hx0, hb, hml, hown, hts, hK, hX, hbb, hbs, hT, hnm⟩ := X
  obtain ⟨h1, h2⟩ := pm_chk_1 hc
  have hA : ∀ q : Nat, s.heap.size ≤ q → (fun q : Nat => base ≤ q) q := fun q h => Nat.le_trans hbs h
  obtain ⟨rfl, hd⟩ := pm_dec1 (k := 1) h1 h2
  cases pm_go_inv hx
  exact lv_lconst hx0 hb hd rfl (kk ad H locs rls (fun _ _ => rfl) (fun _ => rfl) P L)
set_option maxHeartbeats 4000000 in
theorem pm_snd_ldc {nx a b c1 d : Nat} {i : Nat} (X : pm_X p s m args meth c D K base bb sc M) (hc : pm_chk M.1 M.2.1 M.2.2.2.1 M.2.2.2.2.1 pc ((.ldc i), nx, a, b, c1, d) = true) (P : pm_P D K base bb ad w s H locs) (L : pm_L ad bb rls ls) (hL : ls.length = M.2.2.1) (hdd : dd ≤ R.frames ∧ 64 * dd ≤ R.locals) (hR : cells + c2 ≤ R.cells ∧ slots + s2 ≤ R.slots)
    (hx : pm_x sc dd ((.ldc i), nx, a, b, c1, d) pc ls st w = some (.inl (pc', ls', st', w', c2, s2)))
    (kk : ∀ (ad' : Nat → Nat) (H' : Heap) (locs' : List Loc) (rls' : Array Slot), (∀ i, i < w.length → ad' i = ad i) → (c2 = 0 → ad' = ad) → pm_P D K base bb ad' w' s H' locs' → pm_L ad' bb rls' ls' → W p l e R s m args below meth c H' locs' (cells + c2) (slots + s2) Q (F0 m pc' rls' (st'.map (pm_tr ad' bb)))) :
    W p l e R s m args below meth c H locs cells slots Q (F0 m pc rls (st.map (pm_tr ad bb))) := by
  obtain ⟨hx0, hb, hml, hown, hts, hK, hX, hbb, hbs, hT, hnm⟩ := X
  obtain ⟨h1, h2⟩ := pm_chk_1 hc
  have hA : ∀ q : Nat, s.heap.size ≤ q → (fun q : Nat => base ≤ q) q := fun q h => Nat.le_trans hbs h
  obtain ⟨rfl, hd⟩ := pm_dec1 (k := 2) h1 h2
  have h3 : pm_ic.any (fun r => r.1 == M.2.2.2.2.1 && r.2.1 == i && r.2.2.1 == a) = true := by
    unfold pm_chk at hc
    simp only [Bool.and_eq_true] at hc
    exact hc.2
  obtain ⟨⟨o', i', a', p'⟩, hr, h3⟩ := List.any_eq_true.mp h3
  simp only [Bool.and_eq_true, beq_iff_eq] at h3
  obtain ⟨⟨e1, e2⟩, e3⟩ := h3
  have h4 := pm_at_mem (List.all_eq_true.mp pm_ic_ok _ hr)
  dsimp only at h4
  rw [e1, e2, e3] at h4
  cases pm_go_inv hx
  exact lv_ldc hx0 hb hown (hts _ h4) hd (kk ad H locs rls (fun _ _ => rfl) (fun _ => rfl) P L)
set_option maxHeartbeats 4000000 in
theorem pm_snd_ldc_w {nx a b c1 d : Nat} {i : Nat} (X : pm_X p s m args meth c D K base bb sc M) (hc : pm_chk M.1 M.2.1 M.2.2.2.1 M.2.2.2.2.1 pc ((.ldc_w i), nx, a, b, c1, d) = true) (P : pm_P D K base bb ad w s H locs) (L : pm_L ad bb rls ls) (hL : ls.length = M.2.2.1) (hdd : dd ≤ R.frames ∧ 64 * dd ≤ R.locals) (hR : cells + c2 ≤ R.cells ∧ slots + s2 ≤ R.slots)
    (hx : pm_x sc dd ((.ldc_w i), nx, a, b, c1, d) pc ls st w = some (.inl (pc', ls', st', w', c2, s2)))
    (kk : ∀ (ad' : Nat → Nat) (H' : Heap) (locs' : List Loc) (rls' : Array Slot), (∀ i, i < w.length → ad' i = ad i) → (c2 = 0 → ad' = ad) → pm_P D K base bb ad' w' s H' locs' → pm_L ad' bb rls' ls' → W p l e R s m args below meth c H' locs' (cells + c2) (slots + s2) Q (F0 m pc' rls' (st'.map (pm_tr ad' bb)))) :
    W p l e R s m args below meth c H locs cells slots Q (F0 m pc rls (st.map (pm_tr ad bb))) := by
  obtain ⟨hx0, hb, hml, hown, hts, hK, hX, hbb, hbs, hT, hnm⟩ := X
  obtain ⟨h1, h2⟩ := pm_chk_1 hc
  have hA : ∀ q : Nat, s.heap.size ≤ q → (fun q : Nat => base ≤ q) q := fun q h => Nat.le_trans hbs h
  obtain ⟨rfl, hd⟩ := pm_dec1 (k := 3) h1 h2
  have h3 : pm_ic.any (fun r => r.1 == M.2.2.2.2.1 && r.2.1 == i && r.2.2.1 == a) = true := by
    unfold pm_chk at hc
    simp only [Bool.and_eq_true] at hc
    exact hc.2
  obtain ⟨⟨o', i', a', p'⟩, hr, h3⟩ := List.any_eq_true.mp h3
  simp only [Bool.and_eq_true, beq_iff_eq] at h3
  obtain ⟨⟨e1, e2⟩, e3⟩ := h3
  have h4 := pm_at_mem (List.all_eq_true.mp pm_ic_ok _ hr)
  dsimp only at h4
  rw [e1, e2, e3] at h4
  cases pm_go_inv hx
  exact lv_ldcw hx0 hb hown (hts _ h4) hd (kk ad H locs rls (fun _ _ => rfl) (fun _ => rfl) P L)
set_option maxHeartbeats 4000000 in
theorem pm_snd_ldc2_w {nx a b c1 d : Nat} {i : Nat} (X : pm_X p s m args meth c D K base bb sc M) (hc : pm_chk M.1 M.2.1 M.2.2.2.1 M.2.2.2.2.1 pc ((.ldc2_w i), nx, a, b, c1, d) = true) (P : pm_P D K base bb ad w s H locs) (L : pm_L ad bb rls ls) (hL : ls.length = M.2.2.1) (hdd : dd ≤ R.frames ∧ 64 * dd ≤ R.locals) (hR : cells + c2 ≤ R.cells ∧ slots + s2 ≤ R.slots)
    (hx : pm_x sc dd ((.ldc2_w i), nx, a, b, c1, d) pc ls st w = some (.inl (pc', ls', st', w', c2, s2)))
    (kk : ∀ (ad' : Nat → Nat) (H' : Heap) (locs' : List Loc) (rls' : Array Slot), (∀ i, i < w.length → ad' i = ad i) → (c2 = 0 → ad' = ad) → pm_P D K base bb ad' w' s H' locs' → pm_L ad' bb rls' ls' → W p l e R s m args below meth c H' locs' (cells + c2) (slots + s2) Q (F0 m pc' rls' (st'.map (pm_tr ad' bb)))) :
    W p l e R s m args below meth c H locs cells slots Q (F0 m pc rls (st.map (pm_tr ad bb))) := by
  obtain ⟨hx0, hb, hml, hown, hts, hK, hX, hbb, hbs, hT, hnm⟩ := X
  obtain ⟨h1, h2⟩ := pm_chk_1 hc
  have hA : ∀ q : Nat, s.heap.size ≤ q → (fun q : Nat => base ≤ q) q := fun q h => Nat.le_trans hbs h
  obtain ⟨rfl, hd⟩ := pm_dec1 (k := 3) h1 h2
  have h3 : pm_lc.any (fun r => r.1 == M.2.2.2.2.1 && r.2.1 == i && r.2.2.1 == a) = true := by
    unfold pm_chk at hc
    simp only [Bool.and_eq_true] at hc
    exact hc.2
  obtain ⟨⟨o', i', a', p'⟩, hr, h3⟩ := List.any_eq_true.mp h3
  simp only [Bool.and_eq_true, beq_iff_eq] at h3
  obtain ⟨⟨e1, e2⟩, e3⟩ := h3
  have h4 := pm_at_mem (List.all_eq_true.mp pm_lc_ok _ hr)
  dsimp only at h4
  rw [e1, e2, e3] at h4
  cases pm_go_inv hx
  exact lv_ldc2 hx0 hb hown (hts _ h4) hd (kk ad H locs rls (fun _ _ => rfl) (fun _ => rfl) P L)
set_option maxHeartbeats 4000000 in
theorem pm_snd_iload {nx a b c1 d : Nat} {k : Nat} (X : pm_X p s m args meth c D K base bb sc M) (hc : pm_chk M.1 M.2.1 M.2.2.2.1 M.2.2.2.2.1 pc ((.iload k), nx, a, b, c1, d) = true) (P : pm_P D K base bb ad w s H locs) (L : pm_L ad bb rls ls) (hL : ls.length = M.2.2.1) (hdd : dd ≤ R.frames ∧ 64 * dd ≤ R.locals) (hR : cells + c2 ≤ R.cells ∧ slots + s2 ≤ R.slots)
    (hx : pm_x sc dd ((.iload k), nx, a, b, c1, d) pc ls st w = some (.inl (pc', ls', st', w', c2, s2)))
    (kk : ∀ (ad' : Nat → Nat) (H' : Heap) (locs' : List Loc) (rls' : Array Slot), (∀ i, i < w.length → ad' i = ad i) → (c2 = 0 → ad' = ad) → pm_P D K base bb ad' w' s H' locs' → pm_L ad' bb rls' ls' → W p l e R s m args below meth c H' locs' (cells + c2) (slots + s2) Q (F0 m pc' rls' (st'.map (pm_tr ad' bb)))) :
    W p l e R s m args below meth c H locs cells slots Q (F0 m pc rls (st.map (pm_tr ad bb))) := by
  obtain ⟨hx0, hb, hml, hown, hts, hK, hX, hbb, hbs, hT, hnm⟩ := X
  obtain ⟨h1, h2⟩ := pm_chk_1 hc
  have hA : ∀ q : Nat, s.heap.size ≤ q → (fun q : Nat => base ≤ q) q := fun q h => Nat.le_trans hbs h
  obtain ⟨rfl, hd⟩ := pm_dec1 (k := 2) h1 h2
  obtain ⟨x, hv, hz⟩ := pm_iload_inv hx
  cases hz
  exact lv_iload hx0 hb hd (L.2.2 _ _ hv (by simp)) (kk ad H locs rls (fun _ _ => rfl) (fun _ => rfl) P L)
set_option maxHeartbeats 4000000 in
theorem pm_snd_iload_n {nx a b c1 d : Nat} {k : Fin 4} (X : pm_X p s m args meth c D K base bb sc M) (hc : pm_chk M.1 M.2.1 M.2.2.2.1 M.2.2.2.2.1 pc ((.iload_n k), nx, a, b, c1, d) = true) (P : pm_P D K base bb ad w s H locs) (L : pm_L ad bb rls ls) (hL : ls.length = M.2.2.1) (hdd : dd ≤ R.frames ∧ 64 * dd ≤ R.locals) (hR : cells + c2 ≤ R.cells ∧ slots + s2 ≤ R.slots)
    (hx : pm_x sc dd ((.iload_n k), nx, a, b, c1, d) pc ls st w = some (.inl (pc', ls', st', w', c2, s2)))
    (kk : ∀ (ad' : Nat → Nat) (H' : Heap) (locs' : List Loc) (rls' : Array Slot), (∀ i, i < w.length → ad' i = ad i) → (c2 = 0 → ad' = ad) → pm_P D K base bb ad' w' s H' locs' → pm_L ad' bb rls' ls' → W p l e R s m args below meth c H' locs' (cells + c2) (slots + s2) Q (F0 m pc' rls' (st'.map (pm_tr ad' bb)))) :
    W p l e R s m args below meth c H locs cells slots Q (F0 m pc rls (st.map (pm_tr ad bb))) := by
  obtain ⟨hx0, hb, hml, hown, hts, hK, hX, hbb, hbs, hT, hnm⟩ := X
  obtain ⟨h1, h2⟩ := pm_chk_1 hc
  have hA : ∀ q : Nat, s.heap.size ≤ q → (fun q : Nat => base ≤ q) q := fun q h => Nat.le_trans hbs h
  obtain ⟨rfl, hd⟩ := pm_dec1 (k := 1) h1 h2
  obtain ⟨x, hv, hz⟩ := pm_iload_inv hx
  cases hz
  exact lv_iload_n hx0 hb hd rfl (L.2.2 _ _ hv (by simp)) (kk ad H locs rls (fun _ _ => rfl) (fun _ => rfl) P L)
set_option maxHeartbeats 4000000 in
theorem pm_snd_lload {nx a b c1 d : Nat} {k : Nat} (X : pm_X p s m args meth c D K base bb sc M) (hc : pm_chk M.1 M.2.1 M.2.2.2.1 M.2.2.2.2.1 pc ((.lload k), nx, a, b, c1, d) = true) (P : pm_P D K base bb ad w s H locs) (L : pm_L ad bb rls ls) (hL : ls.length = M.2.2.1) (hdd : dd ≤ R.frames ∧ 64 * dd ≤ R.locals) (hR : cells + c2 ≤ R.cells ∧ slots + s2 ≤ R.slots)
    (hx : pm_x sc dd ((.lload k), nx, a, b, c1, d) pc ls st w = some (.inl (pc', ls', st', w', c2, s2)))
    (kk : ∀ (ad' : Nat → Nat) (H' : Heap) (locs' : List Loc) (rls' : Array Slot), (∀ i, i < w.length → ad' i = ad i) → (c2 = 0 → ad' = ad) → pm_P D K base bb ad' w' s H' locs' → pm_L ad' bb rls' ls' → W p l e R s m args below meth c H' locs' (cells + c2) (slots + s2) Q (F0 m pc' rls' (st'.map (pm_tr ad' bb)))) :
    W p l e R s m args below meth c H locs cells slots Q (F0 m pc rls (st.map (pm_tr ad bb))) := by
  obtain ⟨hx0, hb, hml, hown, hts, hK, hX, hbb, hbs, hT, hnm⟩ := X
  obtain ⟨h1, h2⟩ := pm_chk_1 hc
  have hA : ∀ q : Nat, s.heap.size ≤ q → (fun q : Nat => base ≤ q) q := fun q h => Nat.le_trans hbs h
  obtain ⟨rfl, hd⟩ := pm_dec1 (k := 2) h1 h2
  obtain ⟨x, hv, hz⟩ := pm_lload_inv hx
  cases hz
  exact lv_lload hx0 hb hd (L.2.2 _ _ hv (by simp)) (kk ad H locs rls (fun _ _ => rfl) (fun _ => rfl) P L)
set_option maxHeartbeats 4000000 in
theorem pm_snd_lload_n {nx a b c1 d : Nat} {k : Fin 4} (X : pm_X p s m args meth c D K base bb sc M) (hc : pm_chk M.1 M.2.1 M.2.2.2.1 M.2.2.2.2.1 pc ((.lload_n k), nx, a, b, c1, d) = true) (P : pm_P D K base bb ad w s H locs) (L : pm_L ad bb rls ls) (hL : ls.length = M.2.2.1) (hdd : dd ≤ R.frames ∧ 64 * dd ≤ R.locals) (hR : cells + c2 ≤ R.cells ∧ slots + s2 ≤ R.slots)
    (hx : pm_x sc dd ((.lload_n k), nx, a, b, c1, d) pc ls st w = some (.inl (pc', ls', st', w', c2, s2)))
    (kk : ∀ (ad' : Nat → Nat) (H' : Heap) (locs' : List Loc) (rls' : Array Slot), (∀ i, i < w.length → ad' i = ad i) → (c2 = 0 → ad' = ad) → pm_P D K base bb ad' w' s H' locs' → pm_L ad' bb rls' ls' → W p l e R s m args below meth c H' locs' (cells + c2) (slots + s2) Q (F0 m pc' rls' (st'.map (pm_tr ad' bb)))) :
    W p l e R s m args below meth c H locs cells slots Q (F0 m pc rls (st.map (pm_tr ad bb))) := by
  obtain ⟨hx0, hb, hml, hown, hts, hK, hX, hbb, hbs, hT, hnm⟩ := X
  obtain ⟨h1, h2⟩ := pm_chk_1 hc
  have hA : ∀ q : Nat, s.heap.size ≤ q → (fun q : Nat => base ≤ q) q := fun q h => Nat.le_trans hbs h
  obtain ⟨rfl, hd⟩ := pm_dec1 (k := 1) h1 h2
  obtain ⟨x, hv, hz⟩ := pm_lload_inv hx
  cases hz
  exact lv_lload_n hx0 hb hd rfl (L.2.2 _ _ hv (by simp)) (kk ad H locs rls (fun _ _ => rfl) (fun _ => rfl) P L)
set_option maxHeartbeats 4000000 in
theorem pm_snd_aload {nx a b c1 d : Nat} {k : Nat} (X : pm_X p s m args meth c D K base bb sc M) (hc : pm_chk M.1 M.2.1 M.2.2.2.1 M.2.2.2.2.1 pc ((.aload k), nx, a, b, c1, d) = true) (P : pm_P D K base bb ad w s H locs) (L : pm_L ad bb rls ls) (hL : ls.length = M.2.2.1) (hdd : dd ≤ R.frames ∧ 64 * dd ≤ R.locals) (hR : cells + c2 ≤ R.cells ∧ slots + s2 ≤ R.slots)
    (hx : pm_x sc dd ((.aload k), nx, a, b, c1, d) pc ls st w = some (.inl (pc', ls', st', w', c2, s2)))
    (kk : ∀ (ad' : Nat → Nat) (H' : Heap) (locs' : List Loc) (rls' : Array Slot), (∀ i, i < w.length → ad' i = ad i) → (c2 = 0 → ad' = ad) → pm_P D K base bb ad' w' s H' locs' → pm_L ad' bb rls' ls' → W p l e R s m args below meth c H' locs' (cells + c2) (slots + s2) Q (F0 m pc' rls' (st'.map (pm_tr ad' bb)))) :
    W p l e R s m args below meth c H locs cells slots Q (F0 m pc rls (st.map (pm_tr ad bb))) := by
  obtain ⟨hx0, hb, hml, hown, hts, hK, hX, hbb, hbs, hT, hnm⟩ := X
  obtain ⟨h1, h2⟩ := pm_chk_1 hc
  have hA : ∀ q : Nat, s.heap.size ≤ q → (fun q : Nat => base ≤ q) q := fun q h => Nat.le_trans hbs h
  obtain ⟨rfl, hd⟩ := pm_dec1 (k := 2) h1 h2
  obtain ⟨v, hv, hn, hq, hz⟩ := pm_aload_inv hx
  cases hz
  obtain ⟨q, hq⟩ := hq ad bb
  have h3 := L.2.2 _ _ hv hn
  have k1 := kk ad H locs rls (fun _ _ => rfl) (fun _ => rfl) P L
  rw [List.map_cons, hq] at k1
  rw [hq] at h3
  exact lv_aload hx0 hb hd h3 k1
set_option maxHeartbeats 4000000 in
theorem pm_snd_aload_n {nx a b c1 d : Nat} {k : Fin 4} (X : pm_X p s m args meth c D K base bb sc M) (hc : pm_chk M.1 M.2.1 M.2.2.2.1 M.2.2.2.2.1 pc ((.aload_n k), nx, a, b, c1, d) = true) (P : pm_P D K base bb ad w s H locs) (L : pm_L ad bb rls ls) (hL : ls.length = M.2.2.1) (hdd : dd ≤ R.frames ∧ 64 * dd ≤ R.locals) (hR : cells + c2 ≤ R.cells ∧ slots + s2 ≤ R.slots)
    (hx : pm_x sc dd ((.aload_n k), nx, a, b, c1, d) pc ls st w = some (.inl (pc', ls', st', w', c2, s2)))
    (kk : ∀ (ad' : Nat → Nat) (H' : Heap) (locs' : List Loc) (rls' : Array Slot), (∀ i, i < w.length → ad' i = ad i) → (c2 = 0 → ad' = ad) → pm_P D K base bb ad' w' s H' locs' → pm_L ad' bb rls' ls' → W p l e R s m args below meth c H' locs' (cells + c2) (slots + s2) Q (F0 m pc' rls' (st'.map (pm_tr ad' bb)))) :
    W p l e R s m args below meth c H locs cells slots Q (F0 m pc rls (st.map (pm_tr ad bb))) := by
  obtain ⟨hx0, hb, hml, hown, hts, hK, hX, hbb, hbs, hT, hnm⟩ := X
  obtain ⟨h1, h2⟩ := pm_chk_1 hc
  have hA : ∀ q : Nat, s.heap.size ≤ q → (fun q : Nat => base ≤ q) q := fun q h => Nat.le_trans hbs h
  obtain ⟨rfl, hd⟩ := pm_dec1 (k := 1) h1 h2
  obtain ⟨v, hv, hn, hq, hz⟩ := pm_aload_inv hx
  cases hz
  obtain ⟨q, hq⟩ := hq ad bb
  have h3 := L.2.2 _ _ hv hn
  have k1 := kk ad H locs rls (fun _ _ => rfl) (fun _ => rfl) P L
  rw [List.map_cons, hq] at k1
  rw [hq] at h3
  exact lv_aload_n hx0 hb hd rfl h3 k1
set_option maxHeartbeats 4000000 in
theorem pm_snd_istore {nx a b c1 d : Nat} {k : Nat} (X : pm_X p s m args meth c D K base bb sc M) (hc : pm_chk M.1 M.2.1 M.2.2.2.1 M.2.2.2.2.1 pc ((.istore k), nx, a, b, c1, d) = true) (P : pm_P D K base bb ad w s H locs) (L : pm_L ad bb rls ls) (hL : ls.length = M.2.2.1) (hdd : dd ≤ R.frames ∧ 64 * dd ≤ R.locals) (hR : cells + c2 ≤ R.cells ∧ slots + s2 ≤ R.slots)
    (hx : pm_x sc dd ((.istore k), nx, a, b, c1, d) pc ls st w = some (.inl (pc', ls', st', w', c2, s2)))
    (kk : ∀ (ad' : Nat → Nat) (H' : Heap) (locs' : List Loc) (rls' : Array Slot), (∀ i, i < w.length → ad' i = ad i) → (c2 = 0 → ad' = ad) → pm_P D K base bb ad' w' s H' locs' → pm_L ad' bb rls' ls' → W p l e R s m args below meth c H' locs' (cells + c2) (slots + s2) Q (F0 m pc' rls' (st'.map (pm_tr ad' bb)))) :
    W p l e R s m args below meth c H locs cells slots Q (F0 m pc rls (st.map (pm_tr ad bb))) := by
  obtain ⟨hx0, hb, hml, hown, hts, hK, hX, hbb, hbs, hT, hnm⟩ := X
  obtain ⟨h1, h2⟩ := pm_chk_1 hc
  have hA : ∀ q : Nat, s.heap.size ≤ q → (fun q : Nat => base ≤ q) q := fun q h => Nat.le_trans hbs h
  obtain ⟨rfl, hd⟩ := pm_dec1 (k := 2) h1 h2
  obtain ⟨x, r, rfl, hi, hz⟩ := pm_istore_inv hx
  cases hz
  exact lv_istore hx0 hb hd L.has hi rfl (fun rls1 hl1 => kk ad H locs rls1 (fun _ _ => rfl) (fun _ => rfl) P (pm_L.s1 (fun _ h => h) hl1 hi))
set_option maxHeartbeats 4000000 in
theorem pm_snd_istore_n {nx a b c1 d : Nat} {k : Fin 4} (X : pm_X p s m args meth c D K base bb sc M) (hc : pm_chk M.1 M.2.1 M.2.2.2.1 M.2.2.2.2.1 pc ((.istore_n k), nx, a, b, c1, d) = true) (P : pm_P D K base bb ad w s H locs) (L : pm_L ad bb rls ls) (hL : ls.length = M.2.2.1) (hdd : dd ≤ R.frames ∧ 64 * dd ≤ R.locals) (hR : cells + c2 ≤ R.cells ∧ slots + s2 ≤ R.slots)
    (hx : pm_x sc dd ((.istore_n k), nx, a, b, c1, d) pc ls st w = some (.inl (pc', ls', st', w', c2, s2)))
    (kk : ∀ (ad' : Nat → Nat) (H' : Heap) (locs' : List Loc) (rls' : Array Slot), (∀ i, i < w.length → ad' i = ad i) → (c2 = 0 → ad' = ad) → pm_P D K base bb ad' w' s H' locs' → pm_L ad' bb rls' ls' → W p l e R s m args below meth c H' locs' (cells + c2) (slots + s2) Q (F0 m pc' rls' (st'.map (pm_tr ad' bb)))) :
    W p l e R s m args below meth c H locs cells slots Q (F0 m pc rls (st.map (pm_tr ad bb))) := by
  obtain ⟨hx0, hb, hml, hown, hts, hK, hX, hbb, hbs, hT, hnm⟩ := X
  obtain ⟨h1, h2⟩ := pm_chk_1 hc
  have hA : ∀ q : Nat, s.heap.size ≤ q → (fun q : Nat => base ≤ q) q := fun q h => Nat.le_trans hbs h
  obtain ⟨rfl, hd⟩ := pm_dec1 (k := 1) h1 h2
  obtain ⟨x, r, rfl, hi, hz⟩ := pm_istore_inv hx
  cases hz
  exact lv_istore_n hx0 hb hd rfl L.has hi rfl (fun rls1 hl1 => kk ad H locs rls1 (fun _ _ => rfl) (fun _ => rfl) P (pm_L.s1 (fun _ h => h) hl1 hi))
set_option maxHeartbeats 4000000 in
theorem pm_snd_lstore {nx a b c1 d : Nat} {k : Nat} (X : pm_X p s m args meth c D K base bb sc M) (hc : pm_chk M.1 M.2.1 M.2.2.2.1 M.2.2.2.2.1 pc ((.lstore k), nx, a, b, c1, d) = true) (P : pm_P D K base bb ad w s H locs) (L : pm_L ad bb rls ls) (hL : ls.length = M.2.2.1) (hdd : dd ≤ R.frames ∧ 64 * dd ≤ R.locals) (hR : cells + c2 ≤ R.cells ∧ slots + s2 ≤ R.slots)
    (hx : pm_x sc dd ((.lstore k), nx, a, b, c1, d) pc ls st w = some (.inl (pc', ls', st', w', c2, s2)))
    (kk : ∀ (ad' : Nat → Nat) (H' : Heap) (locs' : List Loc) (rls' : Array Slot), (∀ i, i < w.length → ad' i = ad i) → (c2 = 0 → ad' = ad) → pm_P D K base bb ad' w' s H' locs' → pm_L ad' bb rls' ls' → W p l e R s m args below meth c H' locs' (cells + c2) (slots + s2) Q (F0 m pc' rls' (st'.map (pm_tr ad' bb)))) :
    W p l e R s m args below meth c H locs cells slots Q (F0 m pc rls (st.map (pm_tr ad bb))) := by
  obtain ⟨hx0, hb, hml, hown, hts, hK, hX, hbb, hbs, hT, hnm⟩ := X
  obtain ⟨h1, h2⟩ := pm_chk_1 hc
  have hA : ∀ q : Nat, s.heap.size ≤ q → (fun q : Nat => base ≤ q) q := fun q h => Nat.le_trans hbs h
  obtain ⟨rfl, hd⟩ := pm_dec1 (k := 2) h1 h2
  obtain ⟨x, r, rfl, hi, hz⟩ := pm_lstore_inv hx
  cases hz
  exact lv_lstore hx0 hb hd L.has hi rfl (fun rls1 hl1 => kk ad H locs rls1 (fun _ _ => rfl) (fun _ => rfl) P (pm_L.s2 hl1 hi))
set_option maxHeartbeats 4000000 in
theorem pm_snd_lstore_n {nx a b c1 d : Nat} {k : Fin 4} (X : pm_X p s m args meth c D K base bb sc M) (hc : pm_chk M.1 M.2.1 M.2.2.2.1 M.2.2.2.2.1 pc ((.lstore_n k), nx, a, b, c1, d) = true) (P : pm_P D K base bb ad w s H locs) (L : pm_L ad bb rls ls) (hL : ls.length = M.2.2.1) (hdd : dd ≤ R.frames ∧ 64 * dd ≤ R.locals) (hR : cells + c2 ≤ R.cells ∧ slots + s2 ≤ R.slots)
    (hx : pm_x sc dd ((.lstore_n k), nx, a, b, c1, d) pc ls st w = some (.inl (pc', ls', st', w', c2, s2)))
    (kk : ∀ (ad' : Nat → Nat) (H' : Heap) (locs' : List Loc) (rls' : Array Slot), (∀ i, i < w.length → ad' i = ad i) → (c2 = 0 → ad' = ad) → pm_P D K base bb ad' w' s H' locs' → pm_L ad' bb rls' ls' → W p l e R s m args below meth c H' locs' (cells + c2) (slots + s2) Q (F0 m pc' rls' (st'.map (pm_tr ad' bb)))) :
    W p l e R s m args below meth c H locs cells slots Q (F0 m pc rls (st.map (pm_tr ad bb))) := by
  obtain ⟨hx0, hb, hml, hown, hts, hK, hX, hbb, hbs, hT, hnm⟩ := X
  obtain ⟨h1, h2⟩ := pm_chk_1 hc
  have hA : ∀ q : Nat, s.heap.size ≤ q → (fun q : Nat => base ≤ q) q := fun q h => Nat.le_trans hbs h
  obtain ⟨rfl, hd⟩ := pm_dec1 (k := 1) h1 h2
  obtain ⟨x, r, rfl, hi, hz⟩ := pm_lstore_inv hx
  cases hz
  exact lv_lstore_n hx0 hb hd rfl L.has hi rfl (fun rls1 hl1 => kk ad H locs rls1 (fun _ _ => rfl) (fun _ => rfl) P (pm_L.s2 hl1 hi))
set_option maxHeartbeats 4000000 in
theorem pm_snd_astore_n {nx a b c1 d : Nat} {k : Fin 4} (X : pm_X p s m args meth c D K base bb sc M) (hc : pm_chk M.1 M.2.1 M.2.2.2.1 M.2.2.2.2.1 pc ((.astore_n k), nx, a, b, c1, d) = true) (P : pm_P D K base bb ad w s H locs) (L : pm_L ad bb rls ls) (hL : ls.length = M.2.2.1) (hdd : dd ≤ R.frames ∧ 64 * dd ≤ R.locals) (hR : cells + c2 ≤ R.cells ∧ slots + s2 ≤ R.slots)
    (hx : pm_x sc dd ((.astore_n k), nx, a, b, c1, d) pc ls st w = some (.inl (pc', ls', st', w', c2, s2)))
    (kk : ∀ (ad' : Nat → Nat) (H' : Heap) (locs' : List Loc) (rls' : Array Slot), (∀ i, i < w.length → ad' i = ad i) → (c2 = 0 → ad' = ad) → pm_P D K base bb ad' w' s H' locs' → pm_L ad' bb rls' ls' → W p l e R s m args below meth c H' locs' (cells + c2) (slots + s2) Q (F0 m pc' rls' (st'.map (pm_tr ad' bb)))) :
    W p l e R s m args below meth c H locs cells slots Q (F0 m pc rls (st.map (pm_tr ad bb))) := by
  obtain ⟨hx0, hb, hml, hown, hts, hK, hX, hbb, hbs, hT, hnm⟩ := X
  obtain ⟨h1, h2⟩ := pm_chk_1 hc
  have hA : ∀ q : Nat, s.heap.size ≤ q → (fun q : Nat => base ≤ q) q := fun q h => Nat.le_trans hbs h
  obtain ⟨rfl, hd⟩ := pm_dec1 (k := 1) h1 h2
  obtain ⟨x, r, rfl, hi, hz⟩ := pm_astore_inv hx
  cases hz
  exact lv_astore_n hx0 hb hd rfl L.has hi rfl (fun rls1 hl1 => kk ad H locs rls1 (fun _ _ => rfl) (fun _ => rfl) P (pm_L.s1 (fun _ h => h) hl1 hi))
set_option maxHeartbeats 4000000 in
theorem pm_snd_iinc {nx a b c1 d : Nat} {k : Nat} {n : Int} (X : pm_X p s m args meth c D K base bb sc M) (hc : pm_chk M.1 M.2.1 M.2.2.2.1 M.2.2.2.2.1 pc ((.iinc k n), nx, a, b, c1, d) = true) (P : pm_P D K base bb ad w s H locs) (L : pm_L ad bb rls ls) (hL : ls.length = M.2.2.1) (hdd : dd ≤ R.frames ∧ 64 * dd ≤ R.locals) (hR : cells + c2 ≤ R.cells ∧ slots + s2 ≤ R.slots)
    (hx : pm_x sc dd ((.iinc k n), nx, a, b, c1, d) pc ls st w = some (.inl (pc', ls', st', w', c2, s2)))
    (kk : ∀ (ad' : Nat → Nat) (H' : Heap) (locs' : List Loc) (rls' : Array Slot), (∀ i, i < w.length → ad' i = ad i) → (c2 = 0 → ad' = ad) → pm_P D K base bb ad' w' s H' locs' → pm_L ad' bb rls' ls' → W p l e R s m args below meth c H' locs' (cells + c2) (slots + s2) Q (F0 m pc' rls' (st'.map (pm_tr ad' bb)))) :
    W p l e R s m args below meth c H locs cells slots Q (F0 m pc rls (st.map (pm_tr ad bb))) := by
  obtain ⟨hx0, hb, hml, hown, hts, hK, hX, hbb, hbs, hT, hnm⟩ := X
  obtain ⟨h1, h2⟩ := pm_chk_1 hc
  have hA : ∀ q : Nat, s.heap.size ≤ q → (fun q : Nat => base ≤ q) q := fun q h => Nat.le_trans hbs h
  obtain ⟨rfl, hd⟩ := pm_dec1 (k := 3) h1 h2
  obtain ⟨x, hv, hz⟩ := pm_iinc_inv hx
  cases hz
  have hi : k < ls.length := (List.getElem?_eq_some_iff.mp hv).1
  have hl0 : lv_has rls ls.length ((k, .int x) :: pm_lv ad bb ls) := ⟨L.1, L.2.1, fun q hq => by
    rcases List.mem_cons.mp hq with e | hq
    · rw [e]; exact L.2.2 _ _ hv (by simp)
    · exact L.has.2.2 q hq⟩
  exact lv_iinc (k := 0) hx0 hb hd hl0 rfl rfl hi rfl (fun rls1 hl1 => kk ad H locs rls1 (fun _ _ => rfl) (fun _ => rfl) P (pm_L.s1 (fun _ h => List.mem_cons_of_mem _ h) hl1 hi))
set_option maxHeartbeats 4000000 in
theorem pm_snd_dup {nx a b c1 d : Nat} (X : pm_X p s m args meth c D K base bb sc M) (hc : pm_chk M.1 M.2.1 M.2.2.2.1 M.2.2.2.2.1 pc (.dup, nx, a, b, c1, d) = true) (P : pm_P D K base bb ad w s H locs) (L : pm_L ad bb rls ls) (hL : ls.length = M.2.2.1) (hdd : dd ≤ R.frames ∧ 64 * dd ≤ R.locals) (hR : cells + c2 ≤ R.cells ∧ slots + s2 ≤ R.slots)
    (hx : pm_x sc dd (.dup, nx, a, b, c1, d) pc ls st w = some (.inl (pc', ls', st', w', c2, s2)))
    (kk : ∀ (ad' : Nat → Nat) (H' : Heap) (locs' : List Loc) (rls' : Array Slot), (∀ i, i < w.length → ad' i = ad i) → (c2 = 0 → ad' = ad) → pm_P D K base bb ad' w' s H' locs' → pm_L ad' bb rls' ls' → W p l e R s m args below meth c H' locs' (cells + c2) (slots + s2) Q (F0 m pc' rls' (st'.map (pm_tr ad' bb)))) :
    W p l e R s m args below meth c H locs cells slots Q (F0 m pc rls (st.map (pm_tr ad bb))) := by
  obtain ⟨hx0, hb, hml, hown, hts, hK, hX, hbb, hbs, hT, hnm⟩ := X
  obtain ⟨h1, h2⟩ := pm_chk_1 hc
  have hA : ∀ q : Nat, s.heap.size ≤ q → (fun q : Nat => base ≤ q) q := fun q h => Nat.le_trans hbs h
  obtain ⟨rfl, hd⟩ := pm_dec1 (k := 1) h1 h2
  replace hx : (match st with
    | v :: r => bif pm_c1 v then pm_go (pc + 1) ls (v :: v :: r) w else none
    | _ => none) = some _ := hx
  split at hx
  · have hx_0 := pm_bif hx
    clear hx
    obtain ⟨hv, hx⟩ := hx_0
    cases pm_go_inv hx
    exact lv_dup hx0 hb hd ((pm_tr_cat _ _ _).trans (pm_c1_cat hv)) (kk ad H locs rls (fun _ _ => rfl) (fun _ => rfl) P L)
  · cases hx
set_option maxHeartbeats 4000000 in
theorem pm_snd_pop {nx a b c1 d : Nat} (X : pm_X p s m args meth c D K base bb sc M) (hc : pm_chk M.1 M.2.1 M.2.2.2.1 M.2.2.2.2.1 pc (.pop, nx, a, b, c1, d) = true) (P : pm_P D K base bb ad w s H locs) (L : pm_L ad bb rls ls) (hL : ls.length = M.2.2.1) (hdd : dd ≤ R.frames ∧ 64 * dd ≤ R.locals) (hR : cells + c2 ≤ R.cells ∧ slots + s2 ≤ R.slots)
    (hx : pm_x sc dd (.pop, nx, a, b, c1, d) pc ls st w = some (.inl (pc', ls', st', w', c2, s2)))
    (kk : ∀ (ad' : Nat → Nat) (H' : Heap) (locs' : List Loc) (rls' : Array Slot), (∀ i, i < w.length → ad' i = ad i) → (c2 = 0 → ad' = ad) → pm_P D K base bb ad' w' s H' locs' → pm_L ad' bb rls' ls' → W p l e R s m args below meth c H' locs' (cells + c2) (slots + s2) Q (F0 m pc' rls' (st'.map (pm_tr ad' bb)))) :
    W p l e R s m args below meth c H locs cells slots Q (F0 m pc rls (st.map (pm_tr ad bb))) := by
  obtain ⟨hx0, hb, hml, hown, hts, hK, hX, hbb, hbs, hT, hnm⟩ := X
  obtain ⟨h1, h2⟩ := pm_chk_1 hc
  have hA : ∀ q : Nat, s.heap.size ≤ q → (fun q : Nat => base ≤ q) q := fun q h => Nat.le_trans hbs h
  obtain ⟨rfl, hd⟩ := pm_dec1 (k := 1) h1 h2
  replace hx : (match st with
    | v :: r => bif pm_c1 v then pm_go (pc + 1) ls r w else none
    | _ => none) = some _ := hx
  split at hx
  · have hx_0 := pm_bif hx
    clear hx
    obtain ⟨hv, hx⟩ := hx_0
    cases pm_go_inv hx
    exact lv_pop hx0 hb hd ((pm_tr_cat _ _ _).trans (pm_c1_cat hv)) (kk ad H locs rls (fun _ _ => rfl) (fun _ => rfl) P L)
  · cases hx
set_option maxHeartbeats 4000000 in
theorem pm_snd_dup2 {nx a b c1 d : Nat} (X : pm_X p s m args meth c D K base bb sc M) (hc : pm_chk M.1 M.2.1 M.2.2.2.1 M.2.2.2.2.1 pc (.dup2, nx, a, b, c1, d) = true) (P : pm_P D K base bb ad w s H locs) (L : pm_L ad bb rls ls) (hL : ls.length = M.2.2.1) (hdd : dd ≤ R.frames ∧ 64 * dd ≤ R.locals) (hR : cells + c2 ≤ R.cells ∧ slots + s2 ≤ R.slots)
    (hx : pm_x sc dd (.dup2, nx, a, b, c1, d) pc ls st w = some (.inl (pc', ls', st', w', c2, s2)))
    (kk : ∀ (ad' : Nat → Nat) (H' : Heap) (locs' : List Loc) (rls' : Array Slot), (∀ i, i < w.length → ad' i = ad i) → (c2 = 0 → ad' = ad) → pm_P D K base bb ad' w' s H' locs' → pm_L ad' bb rls' ls' → W p l e R s m args below meth c H' locs' (cells + c2) (slots + s2) Q (F0 m pc' rls' (st'.map (pm_tr ad' bb)))) :
    W p l e R s m args below meth c H locs cells slots Q (F0 m pc rls (st.map (pm_tr ad bb))) := by
  obtain ⟨hx0, hb, hml, hown, hts, hK, hX, hbb, hbs, hT, hnm⟩ := X
  obtain ⟨h1, h2⟩ := pm_chk_1 hc
  have hA : ∀ q : Nat, s.heap.size ≤ q → (fun q : Nat => base ≤ q) q := fun q h => Nat.le_trans hbs h
  obtain ⟨rfl, hd⟩ := pm_dec1 (k := 1) h1 h2
  replace hx : (match st with
    | v :: u :: r => bif pm_c1 v && pm_c1 u then pm_go (pc + 1) ls (v :: u :: v :: u :: r) w else none
    | _ => none) = some _ := hx
  split at hx
  · have hx_0 := pm_bif hx
    clear hx
    obtain ⟨hv, hx⟩ := hx_0
    rw [Bool.and_eq_true] at hv
    cases pm_go_inv hx
    exact lv_dup2_11 hx0 hb hd ((pm_tr_cat _ _ _).trans (pm_c1_cat hv.1)) ((pm_tr_cat _ _ _).trans (pm_c1_cat hv.2)) (kk ad H locs rls (fun _ _ => rfl) (fun _ => rfl) P L)
  · cases hx
set_option maxHeartbeats 4000000 in
theorem pm_snd_iadd {nx a b c1 d : Nat} (X : pm_X p s m args meth c D K base bb sc M) (hc : pm_chk M.1 M.2.1 M.2.2.2.1 M.2.2.2.2.1 pc (.iadd, nx, a, b, c1, d) = true) (P : pm_P D K base bb ad w s H locs) (L : pm_L ad bb rls ls) (hL : ls.length = M.2.2.1) (hdd : dd ≤ R.frames ∧ 64 * dd ≤ R.locals) (hR : cells + c2 ≤ R.cells ∧ slots + s2 ≤ R.slots)
    (hx : pm_x sc dd (.iadd, nx, a, b, c1, d) pc ls st w = some (.inl (pc', ls', st', w', c2, s2)))
    (kk : ∀ (ad' : Nat → Nat) (H' : Heap) (locs' : List Loc) (rls' : Array Slot), (∀ i, i < w.length → ad' i = ad i) → (c2 = 0 → ad' = ad) → pm_P D K base bb ad' w' s H' locs' → pm_L ad' bb rls' ls' → W p l e R s m args below meth c H' locs' (cells + c2) (slots + s2) Q (F0 m pc' rls' (st'.map (pm_tr ad' bb)))) :
    W p l e R s m args below meth c H locs cells slots Q (F0 m pc rls (st.map (pm_tr ad bb))) := by
  obtain ⟨hx0, hb, hml, hown, hts, hK, hX, hbb, hbs, hT, hnm⟩ := X
  obtain ⟨h1, h2⟩ := pm_chk_1 hc
  have hA : ∀ q : Nat, s.heap.size ≤ q → (fun q : Nat => base ≤ q) q := fun q h => Nat.le_trans hbs h
  obtain ⟨rfl, hd⟩ := pm_dec1 (k := 1) h1 h2
  have hx_0 := pm_ii_inv hx
  clear hx
  obtain ⟨x, y, r, rfl, hx⟩ := hx_0
  cases pm_gi_inv hx
  exact lv_iadd hx0 hb hd (kk ad H locs rls (fun _ _ => rfl) (fun _ => rfl) P L)
set_option maxHeartbeats 4000000 in
theorem pm_snd_isub {nx a b c1 d : Nat} (X : pm_X p s m args meth c D K base bb sc M) (hc : pm_chk M.1 M.2.1 M.2.2.2.1 M.2.2.2.2.1 pc (.isub, nx, a, b, c1, d) = true) (P : pm_P D K base bb ad w s H locs) (L : pm_L ad bb rls ls) (hL : ls.length = M.2.2.1) (hdd : dd ≤ R.frames ∧ 64 * dd ≤ R.locals) (hR : cells + c2 ≤ R.cells ∧ slots + s2 ≤ R.slots)
    (hx : pm_x sc dd (.isub, nx, a, b, c1, d) pc ls st w = some (.inl (pc', ls', st', w', c2, s2)))
    (kk : ∀ (ad' : Nat → Nat) (H' : Heap) (locs' : List Loc) (rls' : Array Slot), (∀ i, i < w.length → ad' i = ad i) → (c2 = 0 → ad' = ad) → pm_P D K base bb ad' w' s H' locs' → pm_L ad' bb rls' ls' → W p l e R s m args below meth c H' locs' (cells + c2) (slots + s2) Q (F0 m pc' rls' (st'.map (pm_tr ad' bb)))) :
    W p l e R s m args below meth c H locs cells slots Q (F0 m pc rls (st.map (pm_tr ad bb))) := by
  obtain ⟨hx0, hb, hml, hown, hts, hK, hX, hbb, hbs, hT, hnm⟩ := X
  obtain ⟨h1, h2⟩ := pm_chk_1 hc
  have hA : ∀ q : Nat, s.heap.size ≤ q → (fun q : Nat => base ≤ q) q := fun q h => Nat.le_trans hbs h
  obtain ⟨rfl, hd⟩ := pm_dec1 (k := 1) h1 h2
  have hx_0 := pm_ii_inv hx
  clear hx
  obtain ⟨x, y, r, rfl, hx⟩ := hx_0
  cases pm_gi_inv hx
  exact lv_isub hx0 hb hd (kk ad H locs rls (fun _ _ => rfl) (fun _ => rfl) P L)
set_option maxHeartbeats 4000000 in
theorem pm_snd_imul {nx a b c1 d : Nat} (X : pm_X p s m args meth c D K base bb sc M) (hc : pm_chk M.1 M.2.1 M.2.2.2.1 M.2.2.2.2.1 pc (.imul, nx, a, b, c1, d) = true) (P : pm_P D K base bb ad w s H locs) (L : pm_L ad bb rls ls) (hL : ls.length = M.2.2.1) (hdd : dd ≤ R.frames ∧ 64 * dd ≤ R.locals) (hR : cells + c2 ≤ R.cells ∧ slots + s2 ≤ R.slots)
    (hx : pm_x sc dd (.imul, nx, a, b, c1, d) pc ls st w = some (.inl (pc', ls', st', w', c2, s2)))
    (kk : ∀ (ad' : Nat → Nat) (H' : Heap) (locs' : List Loc) (rls' : Array Slot), (∀ i, i < w.length → ad' i = ad i) → (c2 = 0 → ad' = ad) → pm_P D K base bb ad' w' s H' locs' → pm_L ad' bb rls' ls' → W p l e R s m args below meth c H' locs' (cells + c2) (slots + s2) Q (F0 m pc' rls' (st'.map (pm_tr ad' bb)))) :
    W p l e R s m args below meth c H locs cells slots Q (F0 m pc rls (st.map (pm_tr ad bb))) := by
  obtain ⟨hx0, hb, hml, hown, hts, hK, hX, hbb, hbs, hT, hnm⟩ := X
  obtain ⟨h1, h2⟩ := pm_chk_1 hc
  have hA : ∀ q : Nat, s.heap.size ≤ q → (fun q : Nat => base ≤ q) q := fun q h => Nat.le_trans hbs h
  obtain ⟨rfl, hd⟩ := pm_dec1 (k := 1) h1 h2
  have hx_0 := pm_ii_inv hx
  clear hx
  obtain ⟨x, y, r, rfl, hx⟩ := hx_0
  cases pm_gi_inv hx
  exact lv_imul hx0 hb hd (kk ad H locs rls (fun _ _ => rfl) (fun _ => rfl) P L)
set_option maxHeartbeats 4000000 in
theorem pm_snd_iand {nx a b c1 d : Nat} (X : pm_X p s m args meth c D K base bb sc M) (hc : pm_chk M.1 M.2.1 M.2.2.2.1 M.2.2.2.2.1 pc (.iand, nx, a, b, c1, d) = true) (P : pm_P D K base bb ad w s H locs) (L : pm_L ad bb rls ls) (hL : ls.length = M.2.2.1) (hdd : dd ≤ R.frames ∧ 64 * dd ≤ R.locals) (hR : cells + c2 ≤ R.cells ∧ slots + s2 ≤ R.slots)
    (hx : pm_x sc dd (.iand, nx, a, b, c1, d) pc ls st w = some (.inl (pc', ls', st', w', c2, s2)))
    (kk : ∀ (ad' : Nat → Nat) (H' : Heap) (locs' : List Loc) (rls' : Array Slot), (∀ i, i < w.length → ad' i = ad i) → (c2 = 0 → ad' = ad) → pm_P D K base bb ad' w' s H' locs' → pm_L ad' bb rls' ls' → W p l e R s m args below meth c H' locs' (cells + c2) (slots + s2) Q (F0 m pc' rls' (st'.map (pm_tr ad' bb)))) :
    W p l e R s m args below meth c H locs cells slots Q (F0 m pc rls (st.map (pm_tr ad bb))) := by
  obtain ⟨hx0, hb, hml, hown, hts, hK, hX, hbb, hbs, hT, hnm⟩ := X
  obtain ⟨h1, h2⟩ := pm_chk_1 hc
  have hA : ∀ q : Nat, s.heap.size ≤ q → (fun q : Nat => base ≤ q) q := fun q h => Nat.le_trans hbs h
  obtain ⟨rfl, hd⟩ := pm_dec1 (k := 1) h1 h2
  have hx_0 := pm_ii_inv hx
  clear hx
  obtain ⟨x, y, r, rfl, hx⟩ := hx_0
  cases pm_gi_inv hx
  exact lv_iand hx0 hb hd (kk ad H locs rls (fun _ _ => rfl) (fun _ => rfl) P L)
set_option maxHeartbeats 4000000 in
theorem pm_snd_ior {nx a b c1 d : Nat} (X : pm_X p s m args meth c D K base bb sc M) (hc : pm_chk M.1 M.2.1 M.2.2.2.1 M.2.2.2.2.1 pc (.ior, nx, a, b, c1, d) = true) (P : pm_P D K base bb ad w s H locs) (L : pm_L ad bb rls ls) (hL : ls.length = M.2.2.1) (hdd : dd ≤ R.frames ∧ 64 * dd ≤ R.locals) (hR : cells + c2 ≤ R.cells ∧ slots + s2 ≤ R.slots)
    (hx : pm_x sc dd (.ior, nx, a, b, c1, d) pc ls st w = some (.inl (pc', ls', st', w', c2, s2)))
    (kk : ∀ (ad' : Nat → Nat) (H' : Heap) (locs' : List Loc) (rls' : Array Slot), (∀ i, i < w.length → ad' i = ad i) → (c2 = 0 → ad' = ad) → pm_P D K base bb ad' w' s H' locs' → pm_L ad' bb rls' ls' → W p l e R s m args below meth c H' locs' (cells + c2) (slots + s2) Q (F0 m pc' rls' (st'.map (pm_tr ad' bb)))) :
    W p l e R s m args below meth c H locs cells slots Q (F0 m pc rls (st.map (pm_tr ad bb))) := by
  obtain ⟨hx0, hb, hml, hown, hts, hK, hX, hbb, hbs, hT, hnm⟩ := X
  obtain ⟨h1, h2⟩ := pm_chk_1 hc
  have hA : ∀ q : Nat, s.heap.size ≤ q → (fun q : Nat => base ≤ q) q := fun q h => Nat.le_trans hbs h
  obtain ⟨rfl, hd⟩ := pm_dec1 (k := 1) h1 h2
  have hx_0 := pm_ii_inv hx
  clear hx
  obtain ⟨x, y, r, rfl, hx⟩ := hx_0
  cases pm_gi_inv hx
  exact lv_ior hx0 hb hd (kk ad H locs rls (fun _ _ => rfl) (fun _ => rfl) P L)
set_option maxHeartbeats 4000000 in
theorem pm_snd_ixor {nx a b c1 d : Nat} (X : pm_X p s m args meth c D K base bb sc M) (hc : pm_chk M.1 M.2.1 M.2.2.2.1 M.2.2.2.2.1 pc (.ixor, nx, a, b, c1, d) = true) (P : pm_P D K base bb ad w s H locs) (L : pm_L ad bb rls ls) (hL : ls.length = M.2.2.1) (hdd : dd ≤ R.frames ∧ 64 * dd ≤ R.locals) (hR : cells + c2 ≤ R.cells ∧ slots + s2 ≤ R.slots)
    (hx : pm_x sc dd (.ixor, nx, a, b, c1, d) pc ls st w = some (.inl (pc', ls', st', w', c2, s2)))
    (kk : ∀ (ad' : Nat → Nat) (H' : Heap) (locs' : List Loc) (rls' : Array Slot), (∀ i, i < w.length → ad' i = ad i) → (c2 = 0 → ad' = ad) → pm_P D K base bb ad' w' s H' locs' → pm_L ad' bb rls' ls' → W p l e R s m args below meth c H' locs' (cells + c2) (slots + s2) Q (F0 m pc' rls' (st'.map (pm_tr ad' bb)))) :
    W p l e R s m args below meth c H locs cells slots Q (F0 m pc rls (st.map (pm_tr ad bb))) := by
  obtain ⟨hx0, hb, hml, hown, hts, hK, hX, hbb, hbs, hT, hnm⟩ := X
  obtain ⟨h1, h2⟩ := pm_chk_1 hc
  have hA : ∀ q : Nat, s.heap.size ≤ q → (fun q : Nat => base ≤ q) q := fun q h => Nat.le_trans hbs h
  obtain ⟨rfl, hd⟩ := pm_dec1 (k := 1) h1 h2
  have hx_0 := pm_ii_inv hx
  clear hx
  obtain ⟨x, y, r, rfl, hx⟩ := hx_0
  cases pm_gi_inv hx
  exact lv_ixor hx0 hb hd (kk ad H locs rls (fun _ _ => rfl) (fun _ => rfl) P L)
set_option maxHeartbeats 4000000 in
theorem pm_snd_ishl {nx a b c1 d : Nat} (X : pm_X p s m args meth c D K base bb sc M) (hc : pm_chk M.1 M.2.1 M.2.2.2.1 M.2.2.2.2.1 pc (.ishl, nx, a, b, c1, d) = true) (P : pm_P D K base bb ad w s H locs) (L : pm_L ad bb rls ls) (hL : ls.length = M.2.2.1) (hdd : dd ≤ R.frames ∧ 64 * dd ≤ R.locals) (hR : cells + c2 ≤ R.cells ∧ slots + s2 ≤ R.slots)
    (hx : pm_x sc dd (.ishl, nx, a, b, c1, d) pc ls st w = some (.inl (pc', ls', st', w', c2, s2)))
    (kk : ∀ (ad' : Nat → Nat) (H' : Heap) (locs' : List Loc) (rls' : Array Slot), (∀ i, i < w.length → ad' i = ad i) → (c2 = 0 → ad' = ad) → pm_P D K base bb ad' w' s H' locs' → pm_L ad' bb rls' ls' → W p l e R s m args below meth c H' locs' (cells + c2) (slots + s2) Q (F0 m pc' rls' (st'.map (pm_tr ad' bb)))) :
    W p l e R s m args below meth c H locs cells slots Q (F0 m pc rls (st.map (pm_tr ad bb))) := by
  obtain ⟨hx0, hb, hml, hown, hts, hK, hX, hbb, hbs, hT, hnm⟩ := X
  obtain ⟨h1, h2⟩ := pm_chk_1 hc
  have hA : ∀ q : Nat, s.heap.size ≤ q → (fun q : Nat => base ≤ q) q := fun q h => Nat.le_trans hbs h
  obtain ⟨rfl, hd⟩ := pm_dec1 (k := 1) h1 h2
  have hx_0 := pm_ii_inv hx
  clear hx
  obtain ⟨x, y, r, rfl, hx⟩ := hx_0
  cases pm_gi_inv hx
  exact lv_ishl hx0 hb hd (kk ad H locs rls (fun _ _ => rfl) (fun _ => rfl) P L)
set_option maxHeartbeats 4000000 in
theorem pm_snd_ishr {nx a b c1 d : Nat} (X : pm_X p s m args meth c D K base bb sc M) (hc : pm_chk M.1 M.2.1 M.2.2.2.1 M.2.2.2.2.1 pc (.ishr, nx, a, b, c1, d) = true) (P : pm_P D K base bb ad w s H locs) (L : pm_L ad bb rls ls) (hL : ls.length = M.2.2.1) (hdd : dd ≤ R.frames ∧ 64 * dd ≤ R.locals) (hR : cells + c2 ≤ R.cells ∧ slots + s2 ≤ R.slots)
    (hx : pm_x sc dd (.ishr, nx, a, b, c1, d) pc ls st w = some (.inl (pc', ls', st', w', c2, s2)))
    (kk : ∀ (ad' : Nat → Nat) (H' : Heap) (locs' : List Loc) (rls' : Array Slot), (∀ i, i < w.length → ad' i = ad i) → (c2 = 0 → ad' = ad) → pm_P D K base bb ad' w' s H' locs' → pm_L ad' bb rls' ls' → W p l e R s m args below meth c H' locs' (cells + c2) (slots + s2) Q (F0 m pc' rls' (st'.map (pm_tr ad' bb)))) :
    W p l e R s m args below meth c H locs cells slots Q (F0 m pc rls (st.map (pm_tr ad bb))) := by
  obtain ⟨hx0, hb, hml, hown, hts, hK, hX, hbb, hbs, hT, hnm⟩ := X
  obtain ⟨h1, h2⟩ := pm_chk_1 hc
  have hA : ∀ q : Nat, s.heap.size ≤ q → (fun q : Nat => base ≤ q) q := fun q h => Nat.le_trans hbs h
  obtain ⟨rfl, hd⟩ := pm_dec1 (k := 1) h1 h2
  have hx_0 := pm_ii_inv hx
  clear hx
  obtain ⟨x, y, r, rfl, hx⟩ := hx_0
  cases pm_gi_inv hx
  exact lv_ishr hx0 hb hd (kk ad H locs rls (fun _ _ => rfl) (fun _ => rfl) P L)
set_option maxHeartbeats 4000000 in
theorem pm_snd_iushr {nx a b c1 d : Nat} (X : pm_X p s m args meth c D K base bb sc M) (hc : pm_chk M.1 M.2.1 M.2.2.2.1 M.2.2.2.2.1 pc (.iushr, nx, a, b, c1, d) = true) (P : pm_P D K base bb ad w s H locs) (L : pm_L ad bb rls ls) (hL : ls.length = M.2.2.1) (hdd : dd ≤ R.frames ∧ 64 * dd ≤ R.locals) (hR : cells + c2 ≤ R.cells ∧ slots + s2 ≤ R.slots)
    (hx : pm_x sc dd (.iushr, nx, a, b, c1, d) pc ls st w = some (.inl (pc', ls', st', w', c2, s2)))
    (kk : ∀ (ad' : Nat → Nat) (H' : Heap) (locs' : List Loc) (rls' : Array Slot), (∀ i, i < w.length → ad' i = ad i) → (c2 = 0 → ad' = ad) → pm_P D K base bb ad' w' s H' locs' → pm_L ad' bb rls' ls' → W p l e R s m args below meth c H' locs' (cells + c2) (slots + s2) Q (F0 m pc' rls' (st'.map (pm_tr ad' bb)))) :
    W p l e R s m args below meth c H locs cells slots Q (F0 m pc rls (st.map (pm_tr ad bb))) := by
  obtain ⟨hx0, hb, hml, hown, hts, hK, hX, hbb, hbs, hT, hnm⟩ := X
  obtain ⟨h1, h2⟩ := pm_chk_1 hc
  have hA : ∀ q : Nat, s.heap.size ≤ q → (fun q : Nat => base ≤ q) q := fun q h => Nat.le_trans hbs h
  obtain ⟨rfl, hd⟩ := pm_dec1 (k := 1) h1 h2
  have hx_0 := pm_ii_inv hx
  clear hx
  obtain ⟨x, y, r, rfl, hx⟩ := hx_0
  cases pm_gi_inv hx
  exact lv_iushr hx0 hb hd rfl (kk ad H locs rls (fun _ _ => rfl) (fun _ => rfl) P L)
set_option maxHeartbeats 4000000 in
theorem pm_snd_idiv {nx a b c1 d : Nat} (X : pm_X p s m args meth c D K base bb sc M) (hc : pm_chk M.1 M.2.1 M.2.2.2.1 M.2.2.2.2.1 pc (.idiv, nx, a, b, c1, d) = true) (P : pm_P D K base bb ad w s H locs) (L : pm_L ad bb rls ls) (hL : ls.length = M.2.2.1) (hdd : dd ≤ R.frames ∧ 64 * dd ≤ R.locals) (hR : cells + c2 ≤ R.cells ∧ slots + s2 ≤ R.slots)
    (hx : pm_x sc dd (.idiv, nx, a, b, c1, d) pc ls st w = some (.inl (pc', ls', st', w', c2, s2)))
    (kk : ∀ (ad' : Nat → Nat) (H' : Heap) (locs' : List Loc) (rls' : Array Slot), (∀ i, i < w.length → ad' i = ad i) → (c2 = 0 → ad' = ad) → pm_P D K base bb ad' w' s H' locs' → pm_L ad' bb rls' ls' → W p l e R s m args below meth c H' locs' (cells + c2) (slots + s2) Q (F0 m pc' rls' (st'.map (pm_tr ad' bb)))) :
    W p l e R s m args below meth c H locs cells slots Q (F0 m pc rls (st.map (pm_tr ad bb))) := by
  obtain ⟨hx0, hb, hml, hown, hts, hK, hX, hbb, hbs, hT, hnm⟩ := X
  obtain ⟨h1, h2⟩ := pm_chk_1 hc
  have hA : ∀ q : Nat, s.heap.size ≤ q → (fun q : Nat => base ≤ q) q := fun q h => Nat.le_trans hbs h
  obtain ⟨rfl, hd⟩ := pm_dec1 (k := 1) h1 h2
  have hx_0 := pm_ii_inv hx
  clear hx
  obtain ⟨x, y, r, rfl, hx⟩ := hx_0
  have hx_0 := pm_bifn hx
  clear hx
  obtain ⟨hy, hx⟩ := hx_0
  cases pm_gi_inv hx
  exact lv_idiv hx0 hb hd (of_decide_eq_false hy) (kk ad H locs rls (fun _ _ => rfl) (fun _ => rfl) P L)
set_option maxHeartbeats 4000000 in
theorem pm_snd_irem {nx a b c1 d : Nat} (X : pm_X p s m args meth c D K base bb sc M) (hc : pm_chk M.1 M.2.1 M.2.2.2.1 M.2.2.2.2.1 pc (.irem, nx, a, b, c1, d) = true) (P : pm_P D K base bb ad w s H locs) (L : pm_L ad bb rls ls) (hL : ls.length = M.2.2.1) (hdd : dd ≤ R.frames ∧ 64 * dd ≤ R.locals) (hR : cells + c2 ≤ R.cells ∧ slots + s2 ≤ R.slots)
    (hx : pm_x sc dd (.irem, nx, a, b, c1, d) pc ls st w = some (.inl (pc', ls', st', w', c2, s2)))
    (kk : ∀ (ad' : Nat → Nat) (H' : Heap) (locs' : List Loc) (rls' : Array Slot), (∀ i, i < w.length → ad' i = ad i) → (c2 = 0 → ad' = ad) → pm_P D K base bb ad' w' s H' locs' → pm_L ad' bb rls' ls' → W p l e R s m args below meth c H' locs' (cells + c2) (slots + s2) Q (F0 m pc' rls' (st'.map (pm_tr ad' bb)))) :
    W p l e R s m args below meth c H locs cells slots Q (F0 m pc rls (st.map (pm_tr ad bb))) := by
  obtain ⟨hx0, hb, hml, hown, hts, hK, hX, hbb, hbs, hT, hnm⟩ := X
  obtain ⟨h1, h2⟩ := pm_chk_1 hc
  have hA : ∀ q : Nat, s.heap.size ≤ q → (fun q : Nat => base ≤ q) q := fun q h => Nat.le_trans hbs h
  obtain ⟨rfl, hd⟩ := pm_dec1 (k := 1) h1 h2
  have hx_0 := pm_ii_inv hx
  clear hx
  obtain ⟨x, y, r, rfl, hx⟩ := hx_0
  have hx_0 := pm_bifn hx
  clear hx
  obtain ⟨hy, hx⟩ := hx_0
  cases pm_gi_inv hx
  exact lv_irem hx0 hb hd (of_decide_eq_false hy) (kk ad H locs rls (fun _ _ => rfl) (fun _ => rfl) P L)
set_option maxHeartbeats 4000000 in
theorem pm_snd_ineg {nx a b c1 d : Nat} (X : pm_X p s m args meth c D K base bb sc M) (hc : pm_chk M.1 M.2.1 M.2.2.2.1 M.2.2.2.2.1 pc (.ineg, nx, a, b, c1, d) = true) (P : pm_P D K base bb ad w s H locs) (L : pm_L ad bb rls ls) (hL : ls.length = M.2.2.1) (hdd : dd ≤ R.frames ∧ 64 * dd ≤ R.locals) (hR : cells + c2 ≤ R.cells ∧ slots + s2 ≤ R.slots)
    (hx : pm_x sc dd (.ineg, nx, a, b, c1, d) pc ls st w = some (.inl (pc', ls', st', w', c2, s2)))
    (kk : ∀ (ad' : Nat → Nat) (H' : Heap) (locs' : List Loc) (rls' : Array Slot), (∀ i, i < w.length → ad' i = ad i) → (c2 = 0 → ad' = ad) → pm_P D K base bb ad' w' s H' locs' → pm_L ad' bb rls' ls' → W p l e R s m args below meth c H' locs' (cells + c2) (slots + s2) Q (F0 m pc' rls' (st'.map (pm_tr ad' bb)))) :
    W p l e R s m args below meth c H locs cells slots Q (F0 m pc rls (st.map (pm_tr ad bb))) := by
  obtain ⟨hx0, hb, hml, hown, hts, hK, hX, hbb, hbs, hT, hnm⟩ := X
  obtain ⟨h1, h2⟩ := pm_chk_1 hc
  have hA : ∀ q : Nat, s.heap.size ≤ q → (fun q : Nat => base ≤ q) q := fun q h => Nat.le_trans hbs h
  obtain ⟨rfl, hd⟩ := pm_dec1 (k := 1) h1 h2
  have hx_0 := pm_i_inv hx
  clear hx
  obtain ⟨x, r, rfl, hx⟩ := hx_0
  cases pm_gi_inv hx
  exact lv_ineg hx0 hb hd (kk ad H locs rls (fun _ _ => rfl) (fun _ => rfl) P L)
set_option maxHeartbeats 4000000 in
theorem pm_snd_i2l {nx a b c1 d : Nat} (X : pm_X p s m args meth c D K base bb sc M) (hc : pm_chk M.1 M.2.1 M.2.2.2.1 M.2.2.2.2.1 pc (.i2l, nx, a, b, c1, d) = true) (P : pm_P D K base bb ad w s H locs) (L : pm_L ad bb rls ls) (hL : ls.length = M.2.2.1) (hdd : dd ≤ R.frames ∧ 64 * dd ≤ R.locals) (hR : cells + c2 ≤ R.cells ∧ slots + s2 ≤ R.slots)
    (hx : pm_x sc dd (.i2l, nx, a, b, c1, d) pc ls st w = some (.inl (pc', ls', st', w', c2, s2)))
    (kk : ∀ (ad' : Nat → Nat) (H' : Heap) (locs' : List Loc) (rls' : Array Slot), (∀ i, i < w.length → ad' i = ad i) → (c2 = 0 → ad' = ad) → pm_P D K base bb ad' w' s H' locs' → pm_L ad' bb rls' ls' → W p l e R s m args below meth c H' locs' (cells + c2) (slots + s2) Q (F0 m pc' rls' (st'.map (pm_tr ad' bb)))) :
    W p l e R s m args below meth c H locs cells slots Q (F0 m pc rls (st.map (pm_tr ad bb))) := by
  obtain ⟨hx0, hb, hml, hown, hts, hK, hX, hbb, hbs, hT, hnm⟩ := X
  obtain ⟨h1, h2⟩ := pm_chk_1 hc
  have hA : ∀ q : Nat, s.heap.size ≤ q → (fun q : Nat => base ≤ q) q := fun q h => Nat.le_trans hbs h
  obtain ⟨rfl, hd⟩ := pm_dec1 (k := 1) h1 h2
  have hx_0 := pm_i_inv hx
  clear hx
  obtain ⟨x, r, rfl, hx⟩ := hx_0
  cases pm_gl_inv hx
  exact lv_i2l hx0 hb hd rfl (kk ad H locs rls (fun _ _ => rfl) (fun _ => rfl) P L)
set_option maxHeartbeats 4000000 in
theorem pm_snd_l2i {nx a b c1 d : Nat} (X : pm_X p s m args meth c D K base bb sc M) (hc : pm_chk M.1 M.2.1 M.2.2.2.1 M.2.2.2.2.1 pc (.l2i, nx, a, b, c1, d) = true) (P : pm_P D K base bb ad w s H locs) (L : pm_L ad bb rls ls) (hL : ls.length = M.2.2.1) (hdd : dd ≤ R.frames ∧ 64 * dd ≤ R.locals) (hR : cells + c2 ≤ R.cells ∧ slots + s2 ≤ R.slots)
    (hx : pm_x sc dd (.l2i, nx, a, b, c1, d) pc ls st w = some (.inl (pc', ls', st', w', c2, s2)))
    (kk : ∀ (ad' : Nat → Nat) (H' : Heap) (locs' : List Loc) (rls' : Array Slot), (∀ i, i < w.length → ad' i = ad i) → (c2 = 0 → ad' = ad) → pm_P D K base bb ad' w' s H' locs' → pm_L ad' bb rls' ls' → W p l e R s m args below meth c H' locs' (cells + c2) (slots + s2) Q (F0 m pc' rls' (st'.map (pm_tr ad' bb)))) :
    W p l e R s m args below meth c H locs cells slots Q (F0 m pc rls (st.map (pm_tr ad bb))) := by
  obtain ⟨hx0, hb, hml, hown, hts, hK, hX, hbb, hbs, hT, hnm⟩ := X
  obtain ⟨h1, h2⟩ := pm_chk_1 hc
  have hA : ∀ q : Nat, s.heap.size ≤ q → (fun q : Nat => base ≤ q) q := fun q h => Nat.le_trans hbs h
  obtain ⟨rfl, hd⟩ := pm_dec1 (k := 1) h1 h2
  have hx_0 := pm_l_inv hx
  clear hx
  obtain ⟨x, r, rfl, hx⟩ := hx_0
  cases pm_gi_inv hx
  exact lv_l2i hx0 hb hd rfl (kk ad H locs rls (fun _ _ => rfl) (fun _ => rfl) P L)
set_option maxHeartbeats 4000000 in
theorem pm_snd_land {nx a b c1 d : Nat} (X : pm_X p s m args meth c D K base bb sc M) (hc : pm_chk M.1 M.2.1 M.2.2.2.1 M.2.2.2.2.1 pc (.land, nx, a, b, c1, d) = true) (P : pm_P D K base bb ad w s H locs) (L : pm_L ad bb rls ls) (hL : ls.length = M.2.2.1) (hdd : dd ≤ R.frames ∧ 64 * dd ≤ R.locals) (hR : cells + c2 ≤ R.cells ∧ slots + s2 ≤ R.slots)
    (hx : pm_x sc dd (.land, nx, a, b, c1, d) pc ls st w = some (.inl (pc', ls', st', w', c2, s2)))
    (kk : ∀ (ad' : Nat → Nat) (H' : Heap) (locs' : List Loc) (rls' : Array Slot), (∀ i, i < w.length → ad' i = ad i) → (c2 = 0 → ad' = ad) → pm_P D K base bb ad' w' s H' locs' → pm_L ad' bb rls' ls' → W p l e R s m args below meth c H' locs' (cells + c2) (slots + s2) Q (F0 m pc' rls' (st'.map (pm_tr ad' bb)))) :
    W p l e R s m args below meth c H locs cells slots Q (F0 m pc rls (st.map (pm_tr ad bb))) := by
  obtain ⟨hx0, hb, hml, hown, hts, hK, hX, hbb, hbs, hT, hnm⟩ := X
  obtain ⟨h1, h2⟩ := pm_chk_1 hc
  have hA : ∀ q : Nat, s.heap.size ≤ q → (fun q : Nat => base ≤ q) q := fun q h => Nat.le_trans hbs h
  obtain ⟨rfl, hd⟩ := pm_dec1 (k := 1) h1 h2
  have hx_0 := pm_ll_inv hx
  clear hx
  obtain ⟨x, y, r, rfl, hx⟩ := hx_0
  cases pm_gl_inv hx
  exact lv_land hx0 hb hd (kk ad H locs rls (fun _ _ => rfl) (fun _ => rfl) P L)
set_option maxHeartbeats 4000000 in
theorem pm_snd_lor {nx a b c1 d : Nat} (X : pm_X p s m args meth c D K base bb sc M) (hc : pm_chk M.1 M.2.1 M.2.2.2.1 M.2.2.2.2.1 pc (.lor, nx, a, b, c1, d) = true) (P : pm_P D K base bb ad w s H locs) (L : pm_L ad bb rls ls) (hL : ls.length = M.2.2.1) (hdd : dd ≤ R.frames ∧ 64 * dd ≤ R.locals) (hR : cells + c2 ≤ R.cells ∧ slots + s2 ≤ R.slots)
    (hx : pm_x sc dd (.lor, nx, a, b, c1, d) pc ls st w = some (.inl (pc', ls', st', w', c2, s2)))
    (kk : ∀ (ad' : Nat → Nat) (H' : Heap) (locs' : List Loc) (rls' : Array Slot), (∀ i, i < w.length → ad' i = ad i) → (c2 = 0 → ad' = ad) → pm_P D K base bb ad' w' s H' locs' → pm_L ad' bb rls' ls' → W p l e R s m args below meth c H' locs' (cells + c2) (slots + s2) Q (F0 m pc' rls' (st'.map (pm_tr ad' bb)))) :
    W p l e R s m args below meth c H locs cells slots Q (F0 m pc rls (st.map (pm_tr ad bb))) := by
  obtain ⟨hx0, hb, hml, hown, hts, hK, hX, hbb, hbs, hT, hnm⟩ := X
  obtain ⟨h1, h2⟩ := pm_chk_1 hc
  have hA : ∀ q : Nat, s.heap.size ≤ q → (fun q : Nat => base ≤ q) q := fun q h => Nat.le_trans hbs h
  obtain ⟨rfl, hd⟩ := pm_dec1 (k := 1) h1 h2
  have hx_0 := pm_ll_inv hx
  clear hx
  obtain ⟨x, y, r, rfl, hx⟩ := hx_0
  cases pm_gl_inv hx
  exact lv_lor hx0 hb hd (kk ad H locs rls (fun _ _ => rfl) (fun _ => rfl) P L)
set_option maxHeartbeats 4000000 in
theorem pm_snd_lxor {nx a b c1 d : Nat} (X : pm_X p s m args meth c D K base bb sc M) (hc : pm_chk M.1 M.2.1 M.2.2.2.1 M.2.2.2.2.1 pc (.lxor, nx, a, b, c1, d) = true) (P : pm_P D K base bb ad w s H locs) (L : pm_L ad bb rls ls) (hL : ls.length = M.2.2.1) (hdd : dd ≤ R.frames ∧ 64 * dd ≤ R.locals) (hR : cells + c2 ≤ R.cells ∧ slots + s2 ≤ R.slots)
    (hx : pm_x sc dd (.lxor, nx, a, b, c1, d) pc ls st w = some (.inl (pc', ls', st', w', c2, s2)))
    (kk : ∀ (ad' : Nat → Nat) (H' : Heap) (locs' : List Loc) (rls' : Array Slot), (∀ i, i < w.length → ad' i = ad i) → (c2 = 0 → ad' = ad) → pm_P D K base bb ad' w' s H' locs' → pm_L ad' bb rls' ls' → W p l e R s m args below meth c H' locs' (cells + c2) (slots + s2) Q (F0 m pc' rls' (st'.map (pm_tr ad' bb)))) :
    W p l e R s m args below meth c H locs cells slots Q (F0 m pc rls (st.map (pm_tr ad bb))) := by
  obtain ⟨hx0, hb, hml, hown, hts, hK, hX, hbb, hbs, hT, hnm⟩ := X
  obtain ⟨h1, h2⟩ := pm_chk_1 hc
  have hA : ∀ q : Nat, s.heap.size ≤ q → (fun q : Nat => base ≤ q) q := fun q h => Nat.le_trans hbs h
  obtain ⟨rfl, hd⟩ := pm_dec1 (k := 1) h1 h2
  have hx_0 := pm_ll_inv hx
  clear hx
  obtain ⟨x, y, r, rfl, hx⟩ := hx_0
  cases pm_gl_inv hx
  exact lv_lxor hx0 hb hd (kk ad H locs rls (fun _ _ => rfl) (fun _ => rfl) P L)
set_option maxHeartbeats 4000000 in
theorem pm_snd_lshl {nx a b c1 d : Nat} (X : pm_X p s m args meth c D K base bb sc M) (hc : pm_chk M.1 M.2.1 M.2.2.2.1 M.2.2.2.2.1 pc (.lshl, nx, a, b, c1, d) = true) (P : pm_P D K base bb ad w s H locs) (L : pm_L ad bb rls ls) (hL : ls.length = M.2.2.1) (hdd : dd ≤ R.frames ∧ 64 * dd ≤ R.locals) (hR : cells + c2 ≤ R.cells ∧ slots + s2 ≤ R.slots)
    (hx : pm_x sc dd (.lshl, nx, a, b, c1, d) pc ls st w = some (.inl (pc', ls', st', w', c2, s2)))
    (kk : ∀ (ad' : Nat → Nat) (H' : Heap) (locs' : List Loc) (rls' : Array Slot), (∀ i, i < w.length → ad' i = ad i) → (c2 = 0 → ad' = ad) → pm_P D K base bb ad' w' s H' locs' → pm_L ad' bb rls' ls' → W p l e R s m args below meth c H' locs' (cells + c2) (slots + s2) Q (F0 m pc' rls' (st'.map (pm_tr ad' bb)))) :
    W p l e R s m args below meth c H locs cells slots Q (F0 m pc rls (st.map (pm_tr ad bb))) := by
  obtain ⟨hx0, hb, hml, hown, hts, hK, hX, hbb, hbs, hT, hnm⟩ := X
  obtain ⟨h1, h2⟩ := pm_chk_1 hc
  have hA : ∀ q : Nat, s.heap.size ≤ q → (fun q : Nat => base ≤ q) q := fun q h => Nat.le_trans hbs h
  obtain ⟨rfl, hd⟩ := pm_dec1 (k := 1) h1 h2
  have hx_0 := pm_li_inv hx
  clear hx
  obtain ⟨x, y, r, rfl, hx⟩ := hx_0
  cases pm_gl_inv hx
  exact lv_lshl hx0 hb hd rfl (kk ad H locs rls (fun _ _ => rfl) (fun _ => rfl) P L)
set_option maxHeartbeats 4000000 in
theorem pm_snd_lushr {nx a b c1 d : Nat} (X : pm_X p s m args meth c D K base bb sc M) (hc : pm_chk M.1 M.2.1 M.2.2.2.1 M.2.2.2.2.1 pc (.lushr, nx, a, b, c1, d) = true) (P : pm_P D K base bb ad w s H locs) (L : pm_L ad bb rls ls) (hL : ls.length = M.2.2.1) (hdd : dd ≤ R.frames ∧ 64 * dd ≤ R.locals) (hR : cells + c2 ≤ R.cells ∧ slots + s2 ≤ R.slots)
    (hx : pm_x sc dd (.lushr, nx, a, b, c1, d) pc ls st w = some (.inl (pc', ls', st', w', c2, s2)))
    (kk : ∀ (ad' : Nat → Nat) (H' : Heap) (locs' : List Loc) (rls' : Array Slot), (∀ i, i < w.length → ad' i = ad i) → (c2 = 0 → ad' = ad) → pm_P D K base bb ad' w' s H' locs' → pm_L ad' bb rls' ls' → W p l e R s m args below meth c H' locs' (cells + c2) (slots + s2) Q (F0 m pc' rls' (st'.map (pm_tr ad' bb)))) :
    W p l e R s m args below meth c H locs cells slots Q (F0 m pc rls (st.map (pm_tr ad bb))) := by
  obtain ⟨hx0, hb, hml, hown, hts, hK, hX, hbb, hbs, hT, hnm⟩ := X
  obtain ⟨h1, h2⟩ := pm_chk_1 hc
  have hA : ∀ q : Nat, s.heap.size ≤ q → (fun q : Nat => base ≤ q) q := fun q h => Nat.le_trans hbs h
  obtain ⟨rfl, hd⟩ := pm_dec1 (k := 1) h1 h2
  have hx_0 := pm_li_inv hx
  clear hx
  obtain ⟨x, y, r, rfl, hx⟩ := hx_0
  cases pm_gl_inv hx
  exact lv_lushr hx0 hb hd rfl (kk ad H locs rls (fun _ _ => rfl) (fun _ => rfl) P L)
set_option maxHeartbeats 4000000 in
theorem pm_snd_lcmp {nx a b c1 d : Nat} (X : pm_X p s m args meth c D K base bb sc M) (hc : pm_chk M.1 M.2.1 M.2.2.2.1 M.2.2.2.2.1 pc (.lcmp, nx, a, b, c1, d) = true) (P : pm_P D K base bb ad w s H locs) (L : pm_L ad bb rls ls) (hL : ls.length = M.2.2.1) (hdd : dd ≤ R.frames ∧ 64 * dd ≤ R.locals) (hR : cells + c2 ≤ R.cells ∧ slots + s2 ≤ R.slots)
    (hx : pm_x sc dd (.lcmp, nx, a, b, c1, d) pc ls st w = some (.inl (pc', ls', st', w', c2, s2)))
    (kk : ∀ (ad' : Nat → Nat) (H' : Heap) (locs' : List Loc) (rls' : Array Slot), (∀ i, i < w.length → ad' i = ad i) → (c2 = 0 → ad' = ad) → pm_P D K base bb ad' w' s H' locs' → pm_L ad' bb rls' ls' → W p l e R s m args below meth c H' locs' (cells + c2) (slots + s2) Q (F0 m pc' rls' (st'.map (pm_tr ad' bb)))) :
    W p l e R s m args below meth c H locs cells slots Q (F0 m pc rls (st.map (pm_tr ad bb))) := by
  obtain ⟨hx0, hb, hml, hown, hts, hK, hX, hbb, hbs, hT, hnm⟩ := X
  obtain ⟨h1, h2⟩ := pm_chk_1 hc
  have hA : ∀ q : Nat, s.heap.size ≤ q → (fun q : Nat => base ≤ q) q := fun q h => Nat.le_trans hbs h
  obtain ⟨rfl, hd⟩ := pm_dec1 (k := 1) h1 h2
  have hx_0 := pm_ll_inv hx
  clear hx
  obtain ⟨x, y, r, rfl, hx⟩ := hx_0
  cases pm_gi_inv hx
  exact W.lcmp hx0 hb hd (kk ad H locs rls (fun _ _ => rfl) (fun _ => rfl) P L)
set_option maxHeartbeats 4000000 in
theorem pm_snd_if_icmp {nx a b c1 d : Nat} {cd : Jvm.ClassFile.Cond} {off : Int} (X : pm_X p s m args meth c D K base bb sc M) (hc : pm_chk M.1 M.2.1 M.2.2.2.1 M.2.2.2.2.1 pc ((.if_icmp cd off), nx, a, b, c1, d) = true) (P : pm_P D K base bb ad w s H locs) (L : pm_L ad bb rls ls) (hL : ls.length = M.2.2.1) (hdd : dd ≤ R.frames ∧ 64 * dd ≤ R.locals) (hR : cells + c2 ≤ R.cells ∧ slots + s2 ≤ R.slots)
    (hx : pm_x sc dd ((.if_icmp cd off), nx, a, b, c1, d) pc ls st w = some (.inl (pc', ls', st', w', c2, s2)))
    (kk : ∀ (ad' : Nat → Nat) (H' : Heap) (locs' : List Loc) (rls' : Array Slot), (∀ i, i < w.length → ad' i = ad i) → (c2 = 0 → ad' = ad) → pm_P D K base bb ad' w' s H' locs' → pm_L ad' bb rls' ls' → W p l e R s m args below meth c H' locs' (cells + c2) (slots + s2) Q (F0 m pc' rls' (st'.map (pm_tr ad' bb)))) :
    W p l e R s m args below meth c H locs cells slots Q (F0 m pc rls (st.map (pm_tr ad bb))) := by
  obtain ⟨hx0, hb, hml, hown, hts, hK, hX, hbb, hbs, hT, hnm⟩ := X
  obtain ⟨h1, h2⟩ := pm_chk_1 hc
  have hA : ∀ q : Nat, s.heap.size ≤ q → (fun q : Nat => base ≤ q) q := fun q h => Nat.le_trans hbs h
  obtain ⟨rfl, hd⟩ := pm_dec1 (k := 3) h1 h2
  have ht : (pc : Int) + off = (a : Int) := by
    unfold pm_chk at hc
    simp only [Bool.and_eq_true, decide_eq_true_eq] at hc
    exact hc.2
  have hx_0 := pm_ii_inv hx
  clear hx
  obtain ⟨x, y, r, rfl, hx⟩ := hx_0
  cases cd with
  | eq =>
    refine lv_icmp_eq hx0 hb hd ht (fun g => ?_) (fun g => ?_)
    · rw [show pm_icmp .eq x y = true from decide_eq_true g] at hx
      cases pm_go_inv hx
      exact (kk ad H locs rls (fun _ _ => rfl) (fun _ => rfl) P L)
    · rw [show pm_icmp .eq x y = false from decide_eq_false g] at hx
      cases pm_go_inv hx
      exact (kk ad H locs rls (fun _ _ => rfl) (fun _ => rfl) P L)
  | ne =>
    refine lv_icmp_ne hx0 hb hd ht (fun g => ?_) (fun g => ?_)
    · rw [show pm_icmp .ne x y = true from by simp [pm_icmp, g]] at hx
      cases pm_go_inv hx
      exact (kk ad H locs rls (fun _ _ => rfl) (fun _ => rfl) P L)
    · rw [show pm_icmp .ne x y = false from by simp [pm_icmp, g]] at hx
      cases pm_go_inv hx
      exact (kk ad H locs rls (fun _ _ => rfl) (fun _ => rfl) P L)
  | lt =>
    refine lv_icmp_lt hx0 hb hd ht (fun g => ?_) (fun g => ?_)
    · rw [show pm_icmp .lt x y = true from decide_eq_true g] at hx
      cases pm_go_inv hx
      exact (kk ad H locs rls (fun _ _ => rfl) (fun _ => rfl) P L)
    · rw [show pm_icmp .lt x y = false from decide_eq_false g] at hx
      cases pm_go_inv hx
      exact (kk ad H locs rls (fun _ _ => rfl) (fun _ => rfl) P L)
  | ge =>
    refine lv_icmp_ge hx0 hb hd ht (fun g => ?_) (fun g => ?_)
    · rw [show pm_icmp .ge x y = true from decide_eq_true g] at hx
      cases pm_go_inv hx
      exact (kk ad H locs rls (fun _ _ => rfl) (fun _ => rfl) P L)
    · rw [show pm_icmp .ge x y = false from decide_eq_false g] at hx
      cases pm_go_inv hx
      exact (kk ad H locs rls (fun _ _ => rfl) (fun _ => rfl) P L)
  | gt =>
    refine lv_icmp_gt hx0 hb hd ht (fun g => ?_) (fun g => ?_)
    · rw [show pm_icmp .gt x y = true from decide_eq_true g] at hx
      cases pm_go_inv hx
      exact (kk ad H locs rls (fun _ _ => rfl) (fun _ => rfl) P L)
    · rw [show pm_icmp .gt x y = false from decide_eq_false g] at hx
      cases pm_go_inv hx
      exact (kk ad H locs rls (fun _ _ => rfl) (fun _ => rfl) P L)
  | le =>
    refine lv_icmp_le hx0 hb hd ht (fun g => ?_) (fun g => ?_)
    · rw [show pm_icmp .le x y = true from decide_eq_true g] at hx
      cases pm_go_inv hx
      exact (kk ad H locs rls (fun _ _ => rfl) (fun _ => rfl) P L)
    · rw [show pm_icmp .le x y = false from decide_eq_false g] at hx
      cases pm_go_inv hx
      exact (kk ad H locs rls (fun _ _ => rfl) (fun _ => rfl) P L)
set_option maxHeartbeats 4000000 in
theorem pm_snd_ifCond {nx a b c1 d : Nat} {cd : Jvm.ClassFile.Cond} {off : Int} (X : pm_X p s m args meth c D K base bb sc M) (hc : pm_chk M.1 M.2.1 M.2.2.2.1 M.2.2.2.2.1 pc ((.ifCond cd off), nx, a, b, c1, d) = true) (P : pm_P D K base bb ad w s H locs) (L : pm_L ad bb rls ls) (hL : ls.length = M.2.2.1) (hdd : dd ≤ R.frames ∧ 64 * dd ≤ R.locals) (hR : cells + c2 ≤ R.cells ∧ slots + s2 ≤ R.slots)
    (hx : pm_x sc dd ((.ifCond cd off), nx, a, b, c1, d) pc ls st w = some (.inl (pc', ls', st', w', c2, s2)))
    (kk : ∀ (ad' : Nat → Nat) (H' : Heap) (locs' : List Loc) (rls' : Array Slot), (∀ i, i < w.length → ad' i = ad i) → (c2 = 0 → ad' = ad) → pm_P D K base bb ad' w' s H' locs' → pm_L ad' bb rls' ls' → W p l e R s m args below meth c H' locs' (cells + c2) (slots + s2) Q (F0 m pc' rls' (st'.map (pm_tr ad' bb)))) :
    W p l e R s m args below meth c H locs cells slots Q (F0 m pc rls (st.map (pm_tr ad bb))) := by
  obtain ⟨hx0, hb, hml, hown, hts, hK, hX, hbb, hbs, hT, hnm⟩ := X
  obtain ⟨h1, h2⟩ := pm_chk_1 hc
  have hA : ∀ q : Nat, s.heap.size ≤ q → (fun q : Nat => base ≤ q) q := fun q h => Nat.le_trans hbs h
  obtain ⟨rfl, hd⟩ := pm_dec1 (k := 3) h1 h2
  have ht : (pc : Int) + off = (a : Int) := by
    unfold pm_chk at hc
    simp only [Bool.and_eq_true, decide_eq_true_eq] at hc
    exact hc.2
  have hx_0 := pm_i_inv hx
  clear hx
  obtain ⟨x, r, rfl, hx⟩ := hx_0
  cases cd with
  | eq =>
    refine lv_if_eq hx0 hb hd ht (fun g => ?_) (fun g => ?_)
    · rw [show pm_icmp .eq x 0 = true from decide_eq_true g] at hx
      cases pm_go_inv hx
      exact (kk ad H locs rls (fun _ _ => rfl) (fun _ => rfl) P L)
    · rw [show pm_icmp .eq x 0 = false from decide_eq_false g] at hx
      cases pm_go_inv hx
      exact (kk ad H locs rls (fun _ _ => rfl) (fun _ => rfl) P L)
  | ne =>
    refine lv_if_ne hx0 hb hd ht (fun g => ?_) (fun g => ?_)
    · rw [show pm_icmp .ne x 0 = true from by simp [pm_icmp, g]] at hx
      cases pm_go_inv hx
      exact (kk ad H locs rls (fun _ _ => rfl) (fun _ => rfl) P L)
    · rw [show pm_icmp .ne x 0 = false from by simp [pm_icmp, g]] at hx
      cases pm_go_inv hx
      exact (kk ad H locs rls (fun _ _ => rfl) (fun _ => rfl) P L)
  | lt =>
    refine lv_if_lt hx0 hb hd ht (fun g => ?_) (fun g => ?_)
    · rw [show pm_icmp .lt x 0 = true from decide_eq_true g] at hx
      cases pm_go_inv hx
      exact (kk ad H locs rls (fun _ _ => rfl) (fun _ => rfl) P L)
    · rw [show pm_icmp .lt x 0 = false from decide_eq_false g] at hx
      cases pm_go_inv hx
      exact (kk ad H locs rls (fun _ _ => rfl) (fun _ => rfl) P L)
  | ge =>
    refine lv_if_ge hx0 hb hd ht (fun g => ?_) (fun g => ?_)
    · rw [show pm_icmp .ge x 0 = true from decide_eq_true g] at hx
      cases pm_go_inv hx
      exact (kk ad H locs rls (fun _ _ => rfl) (fun _ => rfl) P L)
    · rw [show pm_icmp .ge x 0 = false from decide_eq_false g] at hx
      cases pm_go_inv hx
      exact (kk ad H locs rls (fun _ _ => rfl) (fun _ => rfl) P L)
  | gt =>
    refine lv_if_gt hx0 hb hd ht (fun g => ?_) (fun g => ?_)
    · rw [show pm_icmp .gt x 0 = true from decide_eq_true g] at hx
      cases pm_go_inv hx
      exact (kk ad H locs rls (fun _ _ => rfl) (fun _ => rfl) P L)
    · rw [show pm_icmp .gt x 0 = false from decide_eq_false g] at hx
      cases pm_go_inv hx
      exact (kk ad H locs rls (fun _ _ => rfl) (fun _ => rfl) P L)
  | le =>
    refine lv_if_le hx0 hb hd ht (fun g => ?_) (fun g => ?_)
    · rw [show pm_icmp .le x 0 = true from decide_eq_true g] at hx
      cases pm_go_inv hx
      exact (kk ad H locs rls (fun _ _ => rfl) (fun _ => rfl) P L)
    · rw [show pm_icmp .le x 0 = false from decide_eq_false g] at hx
      cases pm_go_inv hx
      exact (kk ad H locs rls (fun _ _ => rfl) (fun _ => rfl) P L)
set_option maxHeartbeats 4000000 in
theorem pm_snd_goto {nx a b c1 d : Nat} {off : Int} (X : pm_X p s m args meth c D K base bb sc M) (hc : pm_chk M.1 M.2.1 M.2.2.2.1 M.2.2.2.2.1 pc ((.goto off), nx, a, b, c1, d) = true) (P : pm_P D K base bb ad w s H locs) (L : pm_L ad bb rls ls) (hL : ls.length = M.2.2.1) (hdd : dd ≤ R.frames ∧ 64 * dd ≤ R.locals) (hR : cells + c2 ≤ R.cells ∧ slots + s2 ≤ R.slots)
    (hx : pm_x sc dd ((.goto off), nx, a, b, c1, d) pc ls st w = some (.inl (pc', ls', st', w', c2, s2)))
    (kk : ∀ (ad' : Nat → Nat) (H' : Heap) (locs' : List Loc) (rls' : Array Slot), (∀ i, i < w.length → ad' i = ad i) → (c2 = 0 → ad' = ad) → pm_P D K base bb ad' w' s H' locs' → pm_L ad' bb rls' ls' → W p l e R s m args below meth c H' locs' (cells + c2) (slots + s2) Q (F0 m pc' rls' (st'.map (pm_tr ad' bb)))) :
    W p l e R s m args below meth c H locs cells slots Q (F0 m pc rls (st.map (pm_tr ad bb))) := by
  obtain ⟨hx0, hb, hml, hown, hts, hK, hX, hbb, hbs, hT, hnm⟩ := X
  obtain ⟨h1, h2⟩ := pm_chk_1 hc
  have hA : ∀ q : Nat, s.heap.size ≤ q → (fun q : Nat => base ≤ q) q := fun q h => Nat.le_trans hbs h
  obtain ⟨rfl, hd⟩ := pm_dec1 (k := 3) h1 h2
  have ht : (pc : Int) + off = (a : Int) := by
    unfold pm_chk at hc
    simp only [Bool.and_eq_true, decide_eq_true_eq] at hc
    exact hc.2
  cases pm_go_inv hx
  exact lv_goto hx0 hb hd ht (kk ad H locs rls (fun _ _ => rfl) (fun _ => rfl) P L)
set_option maxHeartbeats 4000000 in
theorem pm_snd_tableswitch {nx a b c1 d : Nat} {df lo hi : Int} {offs : Array Int} (X : pm_X p s m args meth c D K base bb sc M) (hc : pm_chk M.1 M.2.1 M.2.2.2.1 M.2.2.2.2.1 pc ((.tableswitch df lo hi offs), nx, a, b, c1, d) = true) (P : pm_P D K base bb ad w s H locs) (L : pm_L ad bb rls ls) (hL : ls.length = M.2.2.1) (hdd : dd ≤ R.frames ∧ 64 * dd ≤ R.locals) (hR : cells + c2 ≤ R.cells ∧ slots + s2 ≤ R.slots)
    (hx : pm_x sc dd ((.tableswitch df lo hi offs), nx, a, b, c1, d) pc ls st w = some (.inl (pc', ls', st', w', c2, s2)))
    (kk : ∀ (ad' : Nat → Nat) (H' : Heap) (locs' : List Loc) (rls' : Array Slot), (∀ i, i < w.length → ad' i = ad i) → (c2 = 0 → ad' = ad) → pm_P D K base bb ad' w' s H' locs' → pm_L ad' bb rls' ls' → W p l e R s m args below meth c H' locs' (cells + c2) (slots + s2) Q (F0 m pc' rls' (st'.map (pm_tr ad' bb)))) :
    W p l e R s m args below meth c H locs cells slots Q (F0 m pc rls (st.map (pm_tr ad bb))) := by
  obtain ⟨hx0, hb, hml, hown, hts, hK, hX, hbb, hbs, hT, hnm⟩ := X
  obtain ⟨h1, h2⟩ := pm_chk_1 hc
  have hA : ∀ q : Nat, s.heap.size ≤ q → (fun q : Nat => base ≤ q) q := fun q h => Nat.le_trans hbs h
  have hx_0 := pm_i_inv hx
  clear hx
  obtain ⟨x, r, rfl, hx⟩ := hx_0
  cases hb0 : decide (x.toInt < lo) || decide (hi < x.toInt) with
  | true =>
    rw [hb0] at hx
    obtain ⟨t, ht, hz⟩ := pm_jmp_inv hx
    cases hz
    simp only [Bool.or_eq_true, decide_eq_true_eq] at hb0
    exact lv_tableOut hx0 hb h1 hb0 ht (kk ad H locs rls (fun _ _ => rfl) (fun _ => rfl) P L)
  | false =>
    rw [hb0, cond_false] at hx
    simp only [Bool.or_eq_false_iff, decide_eq_false_iff_not] at hb0
    split at hx
    · rename_i off ho
      obtain ⟨t, ht, hz⟩ := pm_jmp_inv hx
      cases hz
      exact lv_tableIn hx0 hb h1 hb0.1 hb0.2 ho ht (kk ad H locs rls (fun _ _ => rfl) (fun _ => rfl) P L)
    · cases hx
set_option maxHeartbeats 4000000 in
theorem pm_snd_lookupswitch {nx a b c1 d : Nat} {df : Int} {ps : Array (Int × Int)} (X : pm_X p s m args meth c D K base bb sc M) (hc : pm_chk M.1 M.2.1 M.2.2.2.1 M.2.2.2.2.1 pc ((.lookupswitch df ps), nx, a, b, c1, d) = true) (P : pm_P D K base bb ad w s H locs) (L : pm_L ad bb rls ls) (hL : ls.length = M.2.2.1) (hdd : dd ≤ R.frames ∧ 64 * dd ≤ R.locals) (hR : cells + c2 ≤ R.cells ∧ slots + s2 ≤ R.slots)
    (hx : pm_x sc dd ((.lookupswitch df ps), nx, a, b, c1, d) pc ls st w = some (.inl (pc', ls', st', w', c2, s2)))
    (kk : ∀ (ad' : Nat → Nat) (H' : Heap) (locs' : List Loc) (rls' : Array Slot), (∀ i, i < w.length → ad' i = ad i) → (c2 = 0 → ad' = ad) → pm_P D K base bb ad' w' s H' locs' → pm_L ad' bb rls' ls' → W p l e R s m args below meth c H' locs' (cells + c2) (slots + s2) Q (F0 m pc' rls' (st'.map (pm_tr ad' bb)))) :
    W p l e R s m args below meth c H locs cells slots Q (F0 m pc rls (st.map (pm_tr ad bb))) := by
  obtain ⟨hx0, hb, hml, hown, hts, hK, hX, hbb, hbs, hT, hnm⟩ := X
  obtain ⟨h1, h2⟩ := pm_chk_1 hc
  have hA : ∀ q : Nat, s.heap.size ≤ q → (fun q : Nat => base ≤ q) q := fun q h => Nat.le_trans hbs h
  have hx_0 := pm_i_inv hx
  clear hx
  obtain ⟨x, r, rfl, hx⟩ := hx_0
  obtain ⟨t, ht, hz⟩ := pm_jmp_inv hx
  cases hz
  have h3 : (ps.toList.zip (ps.toList.drop 1)).all (fun (a, next) => a.1 < next.1) = true := by
    unfold pm_chk at hc
    simp only [Bool.and_eq_true] at hc
    exact hc.2
  exact lv_lookup hx0 hb h1 h3 rfl ht (kk ad H locs rls (fun _ _ => rfl) (fun _ => rfl) P L)
set_option maxHeartbeats 4000000 in
theorem pm_snd_baload {nx a b c1 d : Nat} (X : pm_X p s m args meth c D K base bb sc M) (hc : pm_chk M.1 M.2.1 M.2.2.2.1 M.2.2.2.2.1 pc (.baload, nx, a, b, c1, d) = true) (P : pm_P D K base bb ad w s H locs) (L : pm_L ad bb rls ls) (hL : ls.length = M.2.2.1) (hdd : dd ≤ R.frames ∧ 64 * dd ≤ R.locals) (hR : cells + c2 ≤ R.cells ∧ slots + s2 ≤ R.slots)
    (hx : pm_x sc dd (.baload, nx, a, b, c1, d) pc ls st w = some (.inl (pc', ls', st', w', c2, s2)))
    (kk : ∀ (ad' : Nat → Nat) (H' : Heap) (locs' : List Loc) (rls' : Array Slot), (∀ i, i < w.length → ad' i = ad i) → (c2 = 0 → ad' = ad) → pm_P D K base bb ad' w' s H' locs' → pm_L ad' bb rls' ls' → W p l e R s m args below meth c H' locs' (cells + c2) (slots + s2) Q (F0 m pc' rls' (st'.map (pm_tr ad' bb)))) :
    W p l e R s m args below meth c H locs cells slots Q (F0 m pc rls (st.map (pm_tr ad bb))) := by
  obtain ⟨hx0, hb, hml, hown, hts, hK, hX, hbb, hbs, hT, hnm⟩ := X
  obtain ⟨h1, h2⟩ := pm_chk_1 hc
  have hA : ∀ q : Nat, s.heap.size ≤ q → (fun q : Nat => base ≤ q) q := fun q h => Nat.le_trans hbs h
  obtain ⟨rfl, hd⟩ := pm_dec1 (k := 1) h1 h2
  obtain ⟨i, q, r, xs, v, rfl, hw, h3, h4, hz⟩ := pm_ld_inv hx
  cases hz
  have k1 := kk ad H locs rls (fun _ _ => rfl) (fun _ => rfl) P L
  refine va_zald hx0 hb hK P.1 q 1 (pm_rw_at hw) pm_tys1 (pm_vin h3 (List.getElem?_eq_some_iff.mp h4).1) hd ?_
  rw [show xs.getD i.toNatClampNeg 0 = v from pm_getD h4]
  exact k1
set_option maxHeartbeats 4000000 in
theorem pm_snd_laload {nx a b c1 d : Nat} (X : pm_X p s m args meth c D K base bb sc M) (hc : pm_chk M.1 M.2.1 M.2.2.2.1 M.2.2.2.2.1 pc (.laload, nx, a, b, c1, d) = true) (P : pm_P D K base bb ad w s H locs) (L : pm_L ad bb rls ls) (hL : ls.length = M.2.2.1) (hdd : dd ≤ R.frames ∧ 64 * dd ≤ R.locals) (hR : cells + c2 ≤ R.cells ∧ slots + s2 ≤ R.slots)
    (hx : pm_x sc dd (.laload, nx, a, b, c1, d) pc ls st w = some (.inl (pc', ls', st', w', c2, s2)))
    (kk : ∀ (ad' : Nat → Nat) (H' : Heap) (locs' : List Loc) (rls' : Array Slot), (∀ i, i < w.length → ad' i = ad i) → (c2 = 0 → ad' = ad) → pm_P D K base bb ad' w' s H' locs' → pm_L ad' bb rls' ls' → W p l e R s m args below meth c H' locs' (cells + c2) (slots + s2) Q (F0 m pc' rls' (st'.map (pm_tr ad' bb)))) :
    W p l e R s m args below meth c H locs cells slots Q (F0 m pc rls (st.map (pm_tr ad bb))) := by
  obtain ⟨hx0, hb, hml, hown, hts, hK, hX, hbb, hbs, hT, hnm⟩ := X
  obtain ⟨h1, h2⟩ := pm_chk_1 hc
  have hA : ∀ q : Nat, s.heap.size ≤ q → (fun q : Nat => base ≤ q) q := fun q h => Nat.le_trans hbs h
  obtain ⟨rfl, hd⟩ := pm_dec1 (k := 1) h1 h2
  obtain ⟨i, q, r, xs, v, rfl, hw, h3, h4, hz⟩ := pm_lld_inv hx
  cases hz
  have k1 := kk ad H locs rls (fun _ _ => rfl) (fun _ => rfl) P L
  refine va_lald hx0 hb hK P.1 q 2 (pm_rw_at hw) pm_tys2 (pm_vin h3 (List.getElem?_eq_some_iff.mp h4).1) hd ?_
  rw [show xs.getD i.toNatClampNeg 0 = v from pm_getD h4]
  exact k1
set_option maxHeartbeats 4000000 in
theorem pm_snd_iaload {nx a b c1 d : Nat} (X : pm_X p s m args meth c D K base bb sc M) (hc : pm_chk M.1 M.2.1 M.2.2.2.1 M.2.2.2.2.1 pc (.iaload, nx, a, b, c1, d) = true) (P : pm_P D K base bb ad w s H locs) (L : pm_L ad bb rls ls) (hL : ls.length = M.2.2.1) (hdd : dd ≤ R.frames ∧ 64 * dd ≤ R.locals) (hR : cells + c2 ≤ R.cells ∧ slots + s2 ≤ R.slots)
    (hx : pm_x sc dd (.iaload, nx, a, b, c1, d) pc ls st w = some (.inl (pc', ls', st', w', c2, s2)))
    (kk : ∀ (ad' : Nat → Nat) (H' : Heap) (locs' : List Loc) (rls' : Array Slot), (∀ i, i < w.length → ad' i = ad i) → (c2 = 0 → ad' = ad) → pm_P D K base bb ad' w' s H' locs' → pm_L ad' bb rls' ls' → W p l e R s m args below meth c H' locs' (cells + c2) (slots + s2) Q (F0 m pc' rls' (st'.map (pm_tr ad' bb)))) :
    W p l e R s m args below meth c H locs cells slots Q (F0 m pc rls (st.map (pm_tr ad bb))) := by
  obtain ⟨hx0, hb, hml, hown, hts, hK, hX, hbb, hbs, hT, hnm⟩ := X
  obtain ⟨h1, h2⟩ := pm_chk_1 hc
  have hA : ∀ q : Nat, s.heap.size ≤ q → (fun q : Nat => base ≤ q) q := fun q h => Nat.le_trans hbs h
  obtain ⟨rfl, hd⟩ := pm_dec1 (k := 1) h1 h2
  rcases pm_sld_inv hx with ⟨i, q, r, L0, xs0, rfl, hsc, h3, h4, hz⟩ | hx
  · cases hz
    exact va_sld hx0 hb (hX _ _ hsc) (Nat.lt_of_lt_of_le hbb hbs) (Nat.not_le.mpr hbb) P.2.2 (pm_vin h3 h4) hd (kk ad H locs rls (fun _ _ => rfl) (fun _ => rfl) P L)
  · obtain ⟨i, q, r, xs, v, rfl, hw, h3, h4, hz⟩ := pm_ld_inv hx
    cases hz
    have k1 := kk ad H locs rls (fun _ _ => rfl) (fun _ => rfl) P L
    refine va_iald hx0 hb hK P.1 q 0 (pm_rw_at hw) pm_tys0 (pm_vin h3 (List.getElem?_eq_some_iff.mp h4).1) hd ?_
    rw [show xs.getD i.toNatClampNeg 0 = v from pm_getD h4]
    exact k1
set_option maxHeartbeats 4000000 in
theorem pm_snd_aaload {nx a b c1 d : Nat} (X : pm_X p s m args meth c D K base bb sc M) (hc : pm_chk M.1 M.2.1 M.2.2.2.1 M.2.2.2.2.1 pc (.aaload, nx, a, b, c1, d) = true) (P : pm_P D K base bb ad w s H locs) (L : pm_L ad bb rls ls) (hL : ls.length = M.2.2.1) (hdd : dd ≤ R.frames ∧ 64 * dd ≤ R.locals) (hR : cells + c2 ≤ R.cells ∧ slots + s2 ≤ R.slots)
    (hx : pm_x sc dd (.aaload, nx, a, b, c1, d) pc ls st w = some (.inl (pc', ls', st', w', c2, s2)))
    (kk : ∀ (ad' : Nat → Nat) (H' : Heap) (locs' : List Loc) (rls' : Array Slot), (∀ i, i < w.length → ad' i = ad i) → (c2 = 0 → ad' = ad) → pm_P D K base bb ad' w' s H' locs' → pm_L ad' bb rls' ls' → W p l e R s m args below meth c H' locs' (cells + c2) (slots + s2) Q (F0 m pc' rls' (st'.map (pm_tr ad' bb)))) :
    W p l e R s m args below meth c H locs cells slots Q (F0 m pc rls (st.map (pm_tr ad bb))) := by
  obtain ⟨hx0, hb, hml, hown, hts, hK, hX, hbb, hbs, hT, hnm⟩ := X
  obtain ⟨h1, h2⟩ := pm_chk_1 hc
  have hA : ∀ q : Nat, s.heap.size ≤ q → (fun q : Nat => base ≤ q) q := fun q h => Nat.le_trans hbs h
  obtain ⟨rfl, hd⟩ := pm_dec1 (k := 1) h1 h2
  obtain ⟨i, q, r, xs, v, rfl, hw, h3, h4, hz⟩ := pm_ald_inv hx
  cases hz
  have k1 := kk ad H locs rls (fun _ _ => rfl) (fun _ => rfl) P L
  refine va_aldq hx0 hb hK P.1 q 3 (pm_rw_at hw) pm_tys3 (pm_vin h3 (List.getElem?_eq_some_iff.mp h4).1) hd ?_
  rw [show xs.getD i.toNatClampNeg none = some v from pm_getD h4]
  exact k1
set_option maxHeartbeats 4000000 in
theorem pm_snd_iastore {nx a b c1 d : Nat} (X : pm_X p s m args meth c D K base bb sc M) (hc : pm_chk M.1 M.2.1 M.2.2.2.1 M.2.2.2.2.1 pc (.iastore, nx, a, b, c1, d) = true) (P : pm_P D K base bb ad w s H locs) (L : pm_L ad bb rls ls) (hL : ls.length = M.2.2.1) (hdd : dd ≤ R.frames ∧ 64 * dd ≤ R.locals) (hR : cells + c2 ≤ R.cells ∧ slots + s2 ≤ R.slots)
    (hx : pm_x sc dd (.iastore, nx, a, b, c1, d) pc ls st w = some (.inl (pc', ls', st', w', c2, s2)))
    (kk : ∀ (ad' : Nat → Nat) (H' : Heap) (locs' : List Loc) (rls' : Array Slot), (∀ i, i < w.length → ad' i = ad i) → (c2 = 0 → ad' = ad) → pm_P D K base bb ad' w' s H' locs' → pm_L ad' bb rls' ls' → W p l e R s m args below meth c H' locs' (cells + c2) (slots + s2) Q (F0 m pc' rls' (st'.map (pm_tr ad' bb)))) :
    W p l e R s m args below meth c H locs cells slots Q (F0 m pc rls (st.map (pm_tr ad bb))) := by
  obtain ⟨hx0, hb, hml, hown, hts, hK, hX, hbb, hbs, hT, hnm⟩ := X
  obtain ⟨h1, h2⟩ := pm_chk_1 hc
  have hA : ∀ q : Nat, s.heap.size ≤ q → (fun q : Nat => base ≤ q) q := fun q h => Nat.le_trans hbs h
  obtain ⟨rfl, hd⟩ := pm_dec1 (k := 1) h1 h2
  obtain ⟨x, i, q, r, xs, rfl, hw, h3, h4, hz⟩ := pm_st_inv hx
  cases hz
  refine va_iast hx0 hb hK P.1 P.2.1 P.2.2 q 0 (pm_rw_at hw) pm_tys0 (pm_vin h3 h4) hd (fun H1 locs1 g1 g2 g3 => kk ad H1 locs1 rls (fun _ _ => rfl) (fun _ => rfl) (pm_P.put (cl := .inl (0, .inl xs)) _ ?_ g1 g2 g3) L)
  rw [pm_ce_i, List.length_set, pm_upd h4]
set_option maxHeartbeats 4000000 in
theorem pm_snd_bastore {nx a b c1 d : Nat} (X : pm_X p s m args meth c D K base bb sc M) (hc : pm_chk M.1 M.2.1 M.2.2.2.1 M.2.2.2.2.1 pc (.bastore, nx, a, b, c1, d) = true) (P : pm_P D K base bb ad w s H locs) (L : pm_L ad bb rls ls) (hL : ls.length = M.2.2.1) (hdd : dd ≤ R.frames ∧ 64 * dd ≤ R.locals) (hR : cells + c2 ≤ R.cells ∧ slots + s2 ≤ R.slots)
    (hx : pm_x sc dd (.bastore, nx, a, b, c1, d) pc ls st w = some (.inl (pc', ls', st', w', c2, s2)))
    (kk : ∀ (ad' : Nat → Nat) (H' : Heap) (locs' : List Loc) (rls' : Array Slot), (∀ i, i < w.length → ad' i = ad i) → (c2 = 0 → ad' = ad) → pm_P D K base bb ad' w' s H' locs' → pm_L ad' bb rls' ls' → W p l e R s m args below meth c H' locs' (cells + c2) (slots + s2) Q (F0 m pc' rls' (st'.map (pm_tr ad' bb)))) :
    W p l e R s m args below meth c H locs cells slots Q (F0 m pc rls (st.map (pm_tr ad bb))) := by
  obtain ⟨hx0, hb, hml, hown, hts, hK, hX, hbb, hbs, hT, hnm⟩ := X
  obtain ⟨h1, h2⟩ := pm_chk_1 hc
  have hA : ∀ q : Nat, s.heap.size ≤ q → (fun q : Nat => base ≤ q) q := fun q h => Nat.le_trans hbs h
  obtain ⟨rfl, hd⟩ := pm_dec1 (k := 1) h1 h2
  obtain ⟨x, i, q, r, xs, rfl, hw, h3, h4, hz⟩ := pm_st_inv hx
  cases hz
  refine va_zast hx0 hb hK P.1 P.2.1 P.2.2 q 1 (pm_rw_at hw) pm_tys1 (pm_vin h3 h4) hd (fun H1 locs1 g1 g2 g3 => kk ad H1 locs1 rls (fun _ _ => rfl) (fun _ => rfl) (pm_P.put (cl := .inl (1, .inl xs)) _ ?_ g1 g2 g3) L)
  rw [pm_ce_i, List.length_set, pm_upd h4]
set_option maxHeartbeats 4000000 in
theorem pm_snd_lastore {nx a b c1 d : Nat} (X : pm_X p s m args meth c D K base bb sc M) (hc : pm_chk M.1 M.2.1 M.2.2.2.1 M.2.2.2.2.1 pc (.lastore, nx, a, b, c1, d) = true) (P : pm_P D K base bb ad w s H locs) (L : pm_L ad bb rls ls) (hL : ls.length = M.2.2.1) (hdd : dd ≤ R.frames ∧ 64 * dd ≤ R.locals) (hR : cells + c2 ≤ R.cells ∧ slots + s2 ≤ R.slots)
    (hx : pm_x sc dd (.lastore, nx, a, b, c1, d) pc ls st w = some (.inl (pc', ls', st', w', c2, s2)))
    (kk : ∀ (ad' : Nat → Nat) (H' : Heap) (locs' : List Loc) (rls' : Array Slot), (∀ i, i < w.length → ad' i = ad i) → (c2 = 0 → ad' = ad) → pm_P D K base bb ad' w' s H' locs' → pm_L ad' bb rls' ls' → W p l e R s m args below meth c H' locs' (cells + c2) (slots + s2) Q (F0 m pc' rls' (st'.map (pm_tr ad' bb)))) :
    W p l e R s m args below meth c H locs cells slots Q (F0 m pc rls (st.map (pm_tr ad bb))) := by
  obtain ⟨hx0, hb, hml, hown, hts, hK, hX, hbb, hbs, hT, hnm⟩ := X
  obtain ⟨h1, h2⟩ := pm_chk_1 hc
  have hA : ∀ q : Nat, s.heap.size ≤ q → (fun q : Nat => base ≤ q) q := fun q h => Nat.le_trans hbs h
  obtain ⟨rfl, hd⟩ := pm_dec1 (k := 1) h1 h2
  obtain ⟨x, i, q, r, xs, rfl, hw, h3, h4, hz⟩ := pm_lst_inv hx
  cases hz
  refine va_last hx0 hb hK P.1 P.2.1 P.2.2 q 2 (pm_rw_at hw) pm_tys2 (pm_vin h3 h4) hd (fun H1 locs1 g1 g2 g3 => kk ad H1 locs1 rls (fun _ _ => rfl) (fun _ => rfl) (pm_P.put (cl := .inl (2, .inr (.inl xs))) _ ?_ g1 g2 g3) L)
  rw [pm_ce_l, List.length_set, pm_updL h4]
set_option maxHeartbeats 4000000 in
theorem pm_snd_aastore {nx a b c1 d : Nat} (X : pm_X p s m args meth c D K base bb sc M) (hc : pm_chk M.1 M.2.1 M.2.2.2.1 M.2.2.2.2.1 pc (.aastore, nx, a, b, c1, d) = true) (P : pm_P D K base bb ad w s H locs) (L : pm_L ad bb rls ls) (hL : ls.length = M.2.2.1) (hdd : dd ≤ R.frames ∧ 64 * dd ≤ R.locals) (hR : cells + c2 ≤ R.cells ∧ slots + s2 ≤ R.slots)
    (hx : pm_x sc dd (.aastore, nx, a, b, c1, d) pc ls st w = some (.inl (pc', ls', st', w', c2, s2)))
    (kk : ∀ (ad' : Nat → Nat) (H' : Heap) (locs' : List Loc) (rls' : Array Slot), (∀ i, i < w.length → ad' i = ad i) → (c2 = 0 → ad' = ad) → pm_P D K base bb ad' w' s H' locs' → pm_L ad' bb rls' ls' → W p l e R s m args below meth c H' locs' (cells + c2) (slots + s2) Q (F0 m pc' rls' (st'.map (pm_tr ad' bb)))) :
    W p l e R s m args below meth c H locs cells slots Q (F0 m pc rls (st.map (pm_tr ad bb))) := by
  obtain ⟨hx0, hb, hml, hown, hts, hK, hX, hbb, hbs, hT, hnm⟩ := X
  obtain ⟨h1, h2⟩ := pm_chk_1 hc
  have hA : ∀ q : Nat, s.heap.size ≤ q → (fun q : Nat => base ≤ q) q := fun q h => Nat.le_trans hbs h
  obtain ⟨rfl, hd⟩ := pm_dec1 (k := 1) h1 h2
  obtain ⟨v, i, q, r, xs, fs, rfl, hw, hv, h3, h4, hz⟩ := pm_ast_inv hx
  cases hz
  refine va_astq (r := (RX1, TX1, 3)) hx0 hb hK P.1 P.2.1 P.2.2 q 3 v 1 (pm_rw_at hw) pm_tys3 (pm_rw_at hv) rfl (pm_vin h3 h4) hd (fun H1 locs1 g1 g2 g3 => kk ad H1 locs1 rls (fun _ _ => rfl) (fun _ => rfl) (pm_P.put (cl := .inl (3, .inr (.inr xs))) _ ?_ g1 g2 g3) L)
  rw [pm_ce_a, List.length_set, pm_updA h4]
set_option maxHeartbeats 4000000 in
theorem pm_snd_arraylength {nx a b c1 d : Nat} (X : pm_X p s m args meth c D K base bb sc M) (hc : pm_chk M.1 M.2.1 M.2.2.2.1 M.2.2.2.2.1 pc (.arraylength, nx, a, b, c1, d) = true) (P : pm_P D K base bb ad w s H locs) (L : pm_L ad bb rls ls) (hL : ls.length = M.2.2.1) (hdd : dd ≤ R.frames ∧ 64 * dd ≤ R.locals) (hR : cells + c2 ≤ R.cells ∧ slots + s2 ≤ R.slots)
    (hx : pm_x sc dd (.arraylength, nx, a, b, c1, d) pc ls st w = some (.inl (pc', ls', st', w', c2, s2)))
    (kk : ∀ (ad' : Nat → Nat) (H' : Heap) (locs' : List Loc) (rls' : Array Slot), (∀ i, i < w.length → ad' i = ad i) → (c2 = 0 → ad' = ad) → pm_P D K base bb ad' w' s H' locs' → pm_L ad' bb rls' ls' → W p l e R s m args below meth c H' locs' (cells + c2) (slots + s2) Q (F0 m pc' rls' (st'.map (pm_tr ad' bb)))) :
    W p l e R s m args below meth c H locs cells slots Q (F0 m pc rls (st.map (pm_tr ad bb))) := by
  obtain ⟨hx0, hb, hml, hown, hts, hK, hX, hbb, hbs, hT, hnm⟩ := X
  obtain ⟨h1, h2⟩ := pm_chk_1 hc
  have hA : ∀ q : Nat, s.heap.size ≤ q → (fun q : Nat => base ≤ q) q := fun q h => Nat.le_trans hbs h
  obtain ⟨rfl, hd⟩ := pm_dec1 (k := 1) h1 h2
  rcases pm_len_inv hx with ⟨q, r, L0, xs0, rfl, hsc, hz⟩ | ⟨q, r, t, A0, ht, rfl, hw, ⟨xs, rfl, h3, hz⟩ | ⟨xs, rfl, rfl, hz⟩⟩
  · cases hz
    exact va_slen hx0 hb (hX _ _ hsc) (Nat.lt_of_lt_of_le hbb hbs) (Nat.not_le.mpr hbb) P.2.2 hd (kk ad H locs rls (fun _ _ => rfl) (fun _ => rfl) P L)
  · cases hz
    rcases (show t = 0 ∨ t = 1 by omega) with rfl | rfl
    · exact va_alen hx0 hb hK P.1 q 0 (pm_rw_at hw) pm_tys0 rfl hd (kk ad H locs rls (fun _ _ => rfl) (fun _ => rfl) P L)
    · exact va_alen hx0 hb hK P.1 q 1 (pm_rw_at hw) pm_tys1 rfl hd (kk ad H locs rls (fun _ _ => rfl) (fun _ => rfl) P L)
  · cases hz
    exact va_alen hx0 hb hK P.1 q 2 (pm_rw_at hw) pm_tys2 rfl hd (kk ad H locs rls (fun _ _ => rfl) (fun _ => rfl) P L)
set_option maxHeartbeats 4000000 in
theorem pm_snd_getfield {nx a b c1 d : Nat} {i : Nat} (X : pm_X p s m args meth c D K base bb sc M) (hc : pm_chk M.1 M.2.1 M.2.2.2.1 M.2.2.2.2.1 pc ((.getfield i), nx, a, b, c1, d) = true) (P : pm_P D K base bb ad w s H locs) (L : pm_L ad bb rls ls) (hL : ls.length = M.2.2.1) (hdd : dd ≤ R.frames ∧ 64 * dd ≤ R.locals) (hR : cells + c2 ≤ R.cells ∧ slots + s2 ≤ R.slots)
    (hx : pm_x sc dd ((.getfield i), nx, a, b, c1, d) pc ls st w = some (.inl (pc', ls', st', w', c2, s2)))
    (kk : ∀ (ad' : Nat → Nat) (H' : Heap) (locs' : List Loc) (rls' : Array Slot), (∀ i, i < w.length → ad' i = ad i) → (c2 = 0 → ad' = ad) → pm_P D K base bb ad' w' s H' locs' → pm_L ad' bb rls' ls' → W p l e R s m args below meth c H' locs' (cells + c2) (slots + s2) Q (F0 m pc' rls' (st'.map (pm_tr ad' bb)))) :
    W p l e R s m args below meth c H locs cells slots Q (F0 m pc rls (st.map (pm_tr ad bb))) := by
  obtain ⟨hx0, hb, hml, hown, hts, hK, hX, hbb, hbs, hT, hnm⟩ := X
  obtain ⟨h1, h2⟩ := pm_chk_1 hc
  have hA : ∀ q : Nat, s.heap.size ≤ q → (fun q : Nat => base ≤ q) q := fun q h => Nat.le_trans hbs h
  obtain ⟨rfl, hd⟩ := pm_dec1 (k := 3) h1 h2
  have h3 : pm_fl.any (fun r => r.1 == M.2.2.2.2.1 && r.2.1 == i && r.2.2.1 == a && r.2.2.2.1 == b) = true := by
    unfold pm_chk at hc
    simp only [Bool.and_eq_true] at hc
    exact hc.2
  obtain ⟨C, T, N, hv, hN, hl, -⟩ := pm_fl_use h3
  obtain ⟨q, r, fs, v, rfl, hw, hf, hz⟩ := pm_get_inv hx
  cases hz
  exact va_get (D := D) (ci := a) (C := C) (T := T) (N := N) hx0 hb hts (pm_cls hv).1 hown hK P.1 q (pm_rw_at hw) hv b hN (hts _ hl) (fun _ h => h) (by rw [List.getElem?_map, hf]; rfl) hd (kk ad H locs rls (fun _ _ => rfl) (fun _ => rfl) P L)
set_option maxHeartbeats 4000000 in
theorem pm_snd_putfield {nx a b c1 d : Nat} {i : Nat} (X : pm_X p s m args meth c D K base bb sc M) (hc : pm_chk M.1 M.2.1 M.2.2.2.1 M.2.2.2.2.1 pc ((.putfield i), nx, a, b, c1, d) = true) (P : pm_P D K base bb ad w s H locs) (L : pm_L ad bb rls ls) (hL : ls.length = M.2.2.1) (hdd : dd ≤ R.frames ∧ 64 * dd ≤ R.locals) (hR : cells + c2 ≤ R.cells ∧ slots + s2 ≤ R.slots)
    (hx : pm_x sc dd ((.putfield i), nx, a, b, c1, d) pc ls st w = some (.inl (pc', ls', st', w', c2, s2)))
    (kk : ∀ (ad' : Nat → Nat) (H' : Heap) (locs' : List Loc) (rls' : Array Slot), (∀ i, i < w.length → ad' i = ad i) → (c2 = 0 → ad' = ad) → pm_P D K base bb ad' w' s H' locs' → pm_L ad' bb rls' ls' → W p l e R s m args below meth c H' locs' (cells + c2) (slots + s2) Q (F0 m pc' rls' (st'.map (pm_tr ad' bb)))) :
    W p l e R s m args below meth c H locs cells slots Q (F0 m pc rls (st.map (pm_tr ad bb))) := by
  obtain ⟨hx0, hb, hml, hown, hts, hK, hX, hbb, hbs, hT, hnm⟩ := X
  obtain ⟨h1, h2⟩ := pm_chk_1 hc
  have hA : ∀ q : Nat, s.heap.size ≤ q → (fun q : Nat => base ≤ q) q := fun q h => Nat.le_trans hbs h
  obtain ⟨rfl, hd⟩ := pm_dec1 (k := 3) h1 h2
  have h3 : pm_fl.any (fun r => r.1 == M.2.2.2.2.1 && r.2.1 == i && r.2.2.1 == a && r.2.2.2.1 == b) = true ∧ (!pm_fin a b || (decide (M.1.name = "<init>") && M.2.2.2.2.1 == a)) = true := by
    unfold pm_chk at hc
    simp only [Bool.and_eq_true] at hc
    exact hc.2
  obtain ⟨h3, h5⟩ := h3
  obtain ⟨C, T, N, hv, hN, hl, hdecl⟩ := pm_fl_use h3
  obtain ⟨v, q, r, fs, rfl, hw, hf, hlt, hz⟩ := pm_put_inv hx
  cases hz
  obtain ⟨hin, hty, hnm2⟩ := pm_cls hv
  obtain ⟨n1, n2⟩ := pm_okF_ok (ad := ad) (b := bb) hf
  cases hfn : (T b).2.2.2 with
  | false => exact va_put (D := D) (ci := a) (C := C) (T := T) (N := N) hx0 hb hts hin (pm_ty a) hty hnm2 hown hK P.1 P.2.1 P.2.2 q (pm_rw_at hw) hv b hN (hts _ hl) (fun _ h => h) hfn (hty b hN) n1 n2 (by rw [List.length_map]; exact hlt) hd (fun H1 locs1 g1 g2 g3 => kk ad H1 locs1 rls (fun _ _ => rfl) (fun _ => rfl) (pm_P.put (cl := .inr (a, fs)) _ (by rw [pm_ce_o, List.map_set]) g1 g2 g3) L)
  | true =>
    rw [pm_fin_eq hv, hfn] at h5
    simp only [Bool.not_true, Bool.false_or, Bool.and_eq_true, decide_eq_true_eq, beq_iff_eq] at h5
    exact va_putF (D := D) (ci := a) (C := C) (T := T) (N := N) hx0 hb hts hin (pm_ty a) hty hnm2 hown hK P.1 P.2.1 P.2.2 q (pm_rw_at hw) hv b hN (hts _ hl) (fun _ h => h) hfn (hnm h5.1) (hdecl (by rw [pm_fin_eq hv]; exact hfn) h5.2) (hty b hN) n1 n2 (by rw [List.length_map]; exact hlt) hd (fun H1 locs1 g1 g2 g3 => kk ad H1 locs1 rls (fun _ _ => rfl) (fun _ => rfl) (pm_P.put (cl := .inr (a, fs)) _ (by rw [pm_ce_o, List.map_set]) g1 g2 g3) L)
/-- a new cell: addresses as before, and its own -/
noncomputable def pm_ad (ad : Nat → Nat) (n q : Nat) : Nat → Nat := fun i => if i = n then q else ad i
theorem pm_ad_old {ad : Nat → Nat} {n q i : Nat} (h : i < n) : pm_ad ad n q i = ad i := if_neg (Nat.ne_of_lt h)
theorem pm_ad_new {ad : Nat → Nat} {n q : Nat} : pm_ad ad n q n = q := if_pos rfl
theorem pm_P.new {q : Nat} {cl : pm_C} {H1 : Heap} {locs1 : List Loc} (hw : pm_okW w = true) (E : va_E) (he : ∀ ad, pm_ce K ad bb cl = E) (h1 : va_P D vwCl (pm_rw K ad bb w ++ [(q, E)]) H1) (h2 : va_D (fun q => base ≤ q) (pm_rw K ad bb w ++ [(q, E)])) (h3 : va_S (fun q => base ≤ q) s.heap H1 locs1) : pm_P D K base bb (pm_ad ad w.length q) (w ++ [cl]) s H1 locs1 := by
  have e : pm_rw K (pm_ad ad w.length q) bb (w ++ [cl]) = pm_rw K ad bb w ++ [(q, E)] := by
    rw [pm_rw_push, pm_rw_ad hw (fun i hi => pm_ad_old hi), pm_ad_new, he]
  unfold pm_P
  rw [e]
  exact ⟨h1, h2, h3⟩
theorem pm_st_new {q : Nat} {r : List Value} (h : pm_okl w.length r = true) : ((Value.ref w.length :: r).map (pm_tr (pm_ad ad w.length q) bb)) = .ref q :: r.map (pm_tr ad bb) := by
  rw [List.map_cons, pm_map_ad h (fun i hi => pm_ad_old hi)]
  show Value.ref (pm_ad ad w.length q w.length) :: _ = _
  rw [pm_ad_new]
theorem pm_dfl_tr (a N : Nat) : (pm_dfl a N).map (pm_tr ad bb) = pm_dfl a N := by
  unfold pm_dfl
  rw [List.map_map]
  apply List.map_congr_left
  intro k _
  show pm_tr ad bb (defaultValue (pm_ty a k)) = defaultValue (pm_ty a k)
  cases pm_ty a k <;> rfl
theorem pm_rep {α : Type} (n : Nat) (x : α) : (fun j => (List.replicate n x).getD j x) = fun _ => x := by
  funext j
  simp only [List.getD, List.getElem?_replicate]
  split <;> rfl
set_option maxHeartbeats 4000000 in
theorem pm_snd_new {nx a b c1 d : Nat} {i : Nat} (X : pm_X p s m args meth c D K base bb sc M) (hc : pm_chk M.1 M.2.1 M.2.2.2.1 M.2.2.2.2.1 pc ((.new i), nx, a, b, c1, d) = true) (P : pm_P D K base bb ad w s H locs) (L : pm_L ad bb rls ls) (hL : ls.length = M.2.2.1) (hdd : dd ≤ R.frames ∧ 64 * dd ≤ R.locals) (hR : cells + c2 ≤ R.cells ∧ slots + s2 ≤ R.slots)
    (hx : pm_x sc dd ((.new i), nx, a, b, c1, d) pc ls st w = some (.inl (pc', ls', st', w', c2, s2)))
    (kk : ∀ (ad' : Nat → Nat) (H' : Heap) (locs' : List Loc) (rls' : Array Slot), (∀ i, i < w.length → ad' i = ad i) → (c2 = 0 → ad' = ad) → pm_P D K base bb ad' w' s H' locs' → pm_L ad' bb rls' ls' → W p l e R s m args below meth c H' locs' (cells + c2) (slots + s2) Q (F0 m pc' rls' (st'.map (pm_tr ad' bb)))) :
    W p l e R s m args below meth c H locs cells slots Q (F0 m pc rls (st.map (pm_tr ad bb))) := by
  obtain ⟨hx0, hb, hml, hown, hts, hK, hX, hbb, hbs, hT, hnm⟩ := X
  obtain ⟨h1, h2⟩ := pm_chk_1 hc
  have hA : ∀ q : Nat, s.heap.size ≤ q → (fun q : Nat => base ≤ q) q := fun q h => Nat.le_trans hbs h
  obtain ⟨rfl, hd⟩ := pm_dec1 (k := 3) h1 h2
  have h3 : pm_nw.any (fun r => r.1 == M.2.2.2.2.1 && r.2.1 == i && r.2.2.1 == a && r.2.2.2.1 == b) = true := by
    unfold pm_chk at hc
    simp only [Bool.and_eq_true] at hc
    exact hc.2
  obtain ⟨⟨o', i', a', b', p1, p2, p3⟩, hr, h3⟩ := List.any_eq_true.mp h3
  simp only [Bool.and_eq_true, beq_iff_eq] at h3
  obtain ⟨⟨⟨e1, e2⟩, e3⟩, e4⟩ := h3
  have h4 := List.all_eq_true.mp pm_nw_ok _ hr
  unfold pm_okn at h4
  dsimp only at h4
  cases hv : vwCl[a']? with
  | none => rw [hv] at h4; cases h4
  | some q0 =>
    obtain ⟨C, T, N⟩ := q0
    rw [hv] at h4
    simp only [Bool.and_eq_true, beq_iff_eq] at h4
    obtain ⟨⟨⟨g1, g2⟩, g3⟩, g4⟩ := h4
    subst e3; subst e4; subst g1
    rw [e1, e2] at g2
    obtain ⟨w1, w2, w3, hz⟩ := pm_new_inv hx
    cases hz
    obtain ⟨hin, hty, hnm2⟩ := pm_cls hv
    refine va_new (ci := a') (fs := pm_dfl a' s2) hx0 hb hts hin (pm_ty a') hty hown (hts _ (pm_at_mem g2)) (hts _ (pm_at_mem g3)) (hts _ (pm_at_mem g4)) hK P.1 P.2.1 P.2.2 hA hv (fun j hj => ?_) hR.1 hR.2 hd (fun q H1 k1 k2 k3 => ?_)
    · unfold vp_V pm_dfl
      simp [List.getD, hj]
    · have k4 := kk (pm_ad ad w.length q) H1 locs rls (fun i hi => pm_ad_old hi) (fun h => by cases h) (pm_P.new (cl := .inr (a', pm_dfl a' s2)) w1 _ (fun ad => by rw [pm_ce_o, pm_dfl_tr]) k1 k2 k3) (L.ad w2 (fun i hi => pm_ad_old hi))
      rw [pm_st_new w3] at k4
      exact k4
set_option maxHeartbeats 4000000 in
theorem pm_snd_newI {nx a b c1 d : Nat} (X : pm_X p s m args meth c D K base bb sc M) (hc : pm_chk M.1 M.2.1 M.2.2.2.1 M.2.2.2.2.1 pc ((.newarray .int), nx, a, b, c1, d) = true) (P : pm_P D K base bb ad w s H locs) (L : pm_L ad bb rls ls) (hL : ls.length = M.2.2.1) (hdd : dd ≤ R.frames ∧ 64 * dd ≤ R.locals) (hR : cells + c2 ≤ R.cells ∧ slots + s2 ≤ R.slots)
    (hx : pm_x sc dd ((.newarray .int), nx, a, b, c1, d) pc ls st w = some (.inl (pc', ls', st', w', c2, s2)))
    (kk : ∀ (ad' : Nat → Nat) (H' : Heap) (locs' : List Loc) (rls' : Array Slot), (∀ i, i < w.length → ad' i = ad i) → (c2 = 0 → ad' = ad) → pm_P D K base bb ad' w' s H' locs' → pm_L ad' bb rls' ls' → W p l e R s m args below meth c H' locs' (cells + c2) (slots + s2) Q (F0 m pc' rls' (st'.map (pm_tr ad' bb)))) :
    W p l e R s m args below meth c H locs cells slots Q (F0 m pc rls (st.map (pm_tr ad bb))) := by
  obtain ⟨hx0, hb, hml, hown, hts, hK, hX, hbb, hbs, hT, hnm⟩ := X
  obtain ⟨h1, h2⟩ := pm_chk_1 hc
  have hA : ∀ q : Nat, s.heap.size ≤ q → (fun q : Nat => base ≤ q) q := fun q h => Nat.le_trans hbs h
  obtain ⟨rfl, hd⟩ := pm_dec1 (k := 2) h1 h2
  obtain ⟨n, r, rfl, w1, w2, w3, hn, hn2, hz⟩ := pm_newa_inv hx
  cases hz
  refine va_newa (atype := .int) (ty := .int) (a0 := (n.toNatClampNeg, .inl (fun _ => 0))) hx0 hb (hts _ pm_w_arr.1) rfl hK P.1 P.2.1 P.2.2 hA (fun cA => rfl) hn rfl (Nat.le_trans (Nat.mul_le_mul_right _ hn2) (by decide)) hR.1 hR.2 hd (fun q cA H1 k0 k1 k2 k3 => ?_)
  have hcA : cA = pm_cid K 0 := by
    have g1 := (k0.2 4 (cA, .int) rfl).2
    have g2 := (hK.2 0 _ pm_tys0).2
    exact Option.some.inj (g1.symm.trans g2)
  subst hcA
  have k4 := kk (pm_ad ad w.length q) H1 locs rls (fun i hi => pm_ad_old hi) (fun h => by cases h) (pm_P.new (cl := .inl (0, pm_mk 0 n.toNatClampNeg)) w1 _ (fun ad => by
    show pm_ce K ad bb (.inl (0, .inl (List.replicate n.toNatClampNeg 0))) = _
    rw [pm_ce_i, List.length_replicate, pm_rep]) k1 k2 k3) (L.ad w2 (fun i hi => pm_ad_old hi))
  rw [pm_st_new w3] at k4
  exact k4
set_option maxHeartbeats 4000000 in
theorem pm_snd_newZ {nx a b c1 d : Nat} (X : pm_X p s m args meth c D K base bb sc M) (hc : pm_chk M.1 M.2.1 M.2.2.2.1 M.2.2.2.2.1 pc ((.newarray .boolean), nx, a, b, c1, d) = true) (P : pm_P D K base bb ad w s H locs) (L : pm_L ad bb rls ls) (hL : ls.length = M.2.2.1) (hdd : dd ≤ R.frames ∧ 64 * dd ≤ R.locals) (hR : cells + c2 ≤ R.cells ∧ slots + s2 ≤ R.slots)
    (hx : pm_x sc dd ((.newarray .boolean), nx, a, b, c1, d) pc ls st w = some (.inl (pc', ls', st', w', c2, s2)))
    (kk : ∀ (ad' : Nat → Nat) (H' : Heap) (locs' : List Loc) (rls' : Array Slot), (∀ i, i < w.length → ad' i = ad i) → (c2 = 0 → ad' = ad) → pm_P D K base bb ad' w' s H' locs' → pm_L ad' bb rls' ls' → W p l e R s m args below meth c H' locs' (cells + c2) (slots + s2) Q (F0 m pc' rls' (st'.map (pm_tr ad' bb)))) :
    W p l e R s m args below meth c H locs cells slots Q (F0 m pc rls (st.map (pm_tr ad bb))) := by
  obtain ⟨hx0, hb, hml, hown, hts, hK, hX, hbb, hbs, hT, hnm⟩ := X
  obtain ⟨h1, h2⟩ := pm_chk_1 hc
  have hA : ∀ q : Nat, s.heap.size ≤ q → (fun q : Nat => base ≤ q) q := fun q h => Nat.le_trans hbs h
  obtain ⟨rfl, hd⟩ := pm_dec1 (k := 2) h1 h2
  obtain ⟨n, r, rfl, w1, w2, w3, hn, hn2, hz⟩ := pm_newa_inv hx
  cases hz
  refine va_newa (atype := .boolean) (ty := .boolean) (a0 := (n.toNatClampNeg, .inl (fun _ => 0))) hx0 hb (hts _ pm_w_arr.2.1) rfl hK P.1 P.2.1 P.2.2 hA (fun cA => rfl) hn rfl (Nat.le_trans (Nat.mul_le_mul_right _ hn2) (by decide)) hR.1 hR.2 hd (fun q cA H1 k0 k1 k2 k3 => ?_)
  have hcA : cA = pm_cid K 1 := by
    have g1 := (k0.2 4 (cA, .boolean) rfl).2
    have g2 := (hK.2 1 _ pm_tys1).2
    exact Option.some.inj (g1.symm.trans g2)
  subst hcA
  have k4 := kk (pm_ad ad w.length q) H1 locs rls (fun i hi => pm_ad_old hi) (fun h => by cases h) (pm_P.new (cl := .inl (1, pm_mk 1 n.toNatClampNeg)) w1 _ (fun ad => by
    show pm_ce K ad bb (.inl (1, .inl (List.replicate n.toNatClampNeg 0))) = _
    rw [pm_ce_i, List.length_replicate, pm_rep]) k1 k2 k3) (L.ad w2 (fun i hi => pm_ad_old hi))
  rw [pm_st_new w3] at k4
  exact k4
set_option maxHeartbeats 4000000 in
theorem pm_snd_newJ {nx a b c1 d : Nat} (X : pm_X p s m args meth c D K base bb sc M) (hc : pm_chk M.1 M.2.1 M.2.2.2.1 M.2.2.2.2.1 pc ((.newarray .long), nx, a, b, c1, d) = true) (P : pm_P D K base bb ad w s H locs) (L : pm_L ad bb rls ls) (hL : ls.length = M.2.2.1) (hdd : dd ≤ R.frames ∧ 64 * dd ≤ R.locals) (hR : cells + c2 ≤ R.cells ∧ slots + s2 ≤ R.slots)
    (hx : pm_x sc dd ((.newarray .long), nx, a, b, c1, d) pc ls st w = some (.inl (pc', ls', st', w', c2, s2)))
    (kk : ∀ (ad' : Nat → Nat) (H' : Heap) (locs' : List Loc) (rls' : Array Slot), (∀ i, i < w.length → ad' i = ad i) → (c2 = 0 → ad' = ad) → pm_P D K base bb ad' w' s H' locs' → pm_L ad' bb rls' ls' → W p l e R s m args below meth c H' locs' (cells + c2) (slots + s2) Q (F0 m pc' rls' (st'.map (pm_tr ad' bb)))) :
    W p l e R s m args below meth c H locs cells slots Q (F0 m pc rls (st.map (pm_tr ad bb))) := by
  obtain ⟨hx0, hb, hml, hown, hts, hK, hX, hbb, hbs, hT, hnm⟩ := X
  obtain ⟨h1, h2⟩ := pm_chk_1 hc
  have hA : ∀ q : Nat, s.heap.size ≤ q → (fun q : Nat => base ≤ q) q := fun q h => Nat.le_trans hbs h
  obtain ⟨rfl, hd⟩ := pm_dec1 (k := 2) h1 h2
  obtain ⟨n, r, rfl, w1, w2, w3, hn, hn2, hz⟩ := pm_newa_inv hx
  cases hz
  refine va_newa (atype := .long) (ty := .long) (a0 := (n.toNatClampNeg, .inr (.inl (fun _ => 0)))) hx0 hb (hts _ pm_w_arr.2.2.1) rfl hK P.1 P.2.1 P.2.2 hA (fun cA => rfl) hn rfl (Nat.le_trans (Nat.mul_le_mul_right _ hn2) (by decide)) hR.1 hR.2 hd (fun q cA H1 k0 k1 k2 k3 => ?_)
  have hcA : cA = pm_cid K 2 := by
    have g1 := (k0.2 4 (cA, .long) rfl).2
    have g2 := (hK.2 2 _ pm_tys2).2
    exact Option.some.inj (g1.symm.trans g2)
  subst hcA
  have k4 := kk (pm_ad ad w.length q) H1 locs rls (fun i hi => pm_ad_old hi) (fun h => by cases h) (pm_P.new (cl := .inl (2, pm_mk 2 n.toNatClampNeg)) w1 _ (fun ad => by
    show pm_ce K ad bb (.inl (2, .inr (.inl (List.replicate n.toNatClampNeg 0)))) = _
    rw [pm_ce_l, List.length_replicate, pm_rep]) k1 k2 k3) (L.ad w2 (fun i hi => pm_ad_old hi))
  rw [pm_st_new w3] at k4
  exact k4
set_option maxHeartbeats 4000000 in
theorem pm_snd_anewarray {nx a b c1 d : Nat} {i : Nat} (X : pm_X p s m args meth c D K base bb sc M) (hc : pm_chk M.1 M.2.1 M.2.2.2.1 M.2.2.2.2.1 pc ((.anewarray i), nx, a, b, c1, d) = true) (P : pm_P D K base bb ad w s H locs) (L : pm_L ad bb rls ls) (hL : ls.length = M.2.2.1) (hdd : dd ≤ R.frames ∧ 64 * dd ≤ R.locals) (hR : cells + c2 ≤ R.cells ∧ slots + s2 ≤ R.slots)
    (hx : pm_x sc dd ((.anewarray i), nx, a, b, c1, d) pc ls st w = some (.inl (pc', ls', st', w', c2, s2)))
    (kk : ∀ (ad' : Nat → Nat) (H' : Heap) (locs' : List Loc) (rls' : Array Slot), (∀ i, i < w.length → ad' i = ad i) → (c2 = 0 → ad' = ad) → pm_P D K base bb ad' w' s H' locs' → pm_L ad' bb rls' ls' → W p l e R s m args below meth c H' locs' (cells + c2) (slots + s2) Q (F0 m pc' rls' (st'.map (pm_tr ad' bb)))) :
    W p l e R s m args below meth c H locs cells slots Q (F0 m pc rls (st.map (pm_tr ad bb))) := by
  obtain ⟨hx0, hb, hml, hown, hts, hK, hX, hbb, hbs, hT, hnm⟩ := X
  obtain ⟨h1, h2⟩ := pm_chk_1 hc
  have hA : ∀ q : Nat, s.heap.size ≤ q → (fun q : Nat => base ≤ q) q := fun q h => Nat.le_trans hbs h
  obtain ⟨rfl, hd⟩ := pm_dec1 (k := 3) h1 h2
  have h3 : pm_an.any (fun r => r.1 == M.2.2.2.2.1 && r.2.1 == i) = true := by
    unfold pm_chk at hc
    simp only [Bool.and_eq_true] at hc
    exact hc.2
  obtain ⟨⟨o', i', p1⟩, hr, h3⟩ := List.any_eq_true.mp h3
  simp only [Bool.and_eq_true, beq_iff_eq] at h3
  have h4 := pm_at_mem (List.all_eq_true.mp pm_an_ok _ hr)
  dsimp only at h4
  rw [h3.1, h3.2] at h4
  obtain ⟨n, r, rfl, w1, w2, w3, hn, hn2, hz⟩ := pm_newa_inv hx
  cases hz
  refine va_newq hx0 hb hown (hts _ h4) hT.2 hK P.1 P.2.1 P.2.2 hA hn rfl (Nat.le_trans (Nat.mul_le_mul_right _ hn2) (by decide)) hR.1 hR.2 hd (fun q cA H1 k0 k1 k2 k3 => ?_)
  have hcA : cA = pm_cid K 3 := by
    obtain ⟨kA, comp, -, -, -, g1⟩ := (k0.2 4 (cA, .object "DrawLooms$Beam") rfl).2
    obtain ⟨kA2, comp2, -, -, -, g2⟩ := (hK.2 3 _ pm_tys3).2
    exact Option.some.inj (g1.symm.trans g2)
  subst hcA
  have k4 := kk (pm_ad ad w.length q) H1 locs rls (fun i hi => pm_ad_old hi) (fun h => by cases h) (pm_P.new (cl := .inl (3, pm_mk 3 n.toNatClampNeg)) w1 _ (fun ad => by
    show pm_ce K ad bb (.inl (3, .inr (.inr (List.replicate n.toNatClampNeg none)))) = _
    have hf : (fun j => ((List.replicate n.toNatClampNeg (none : Option Nat)).getD j none).map ad) = fun _ => none := by
      funext j
      rw [show (List.replicate n.toNatClampNeg (none : Option Nat)).getD j none = none from congrFun (pm_rep n.toNatClampNeg none) j]
      rfl
    rw [pm_ce_a, List.length_replicate, hf]) k1 k2 k3) (L.ad w2 (fun i hi => pm_ad_old hi))
  rw [pm_st_new w3] at k4
  exact k4
set_option maxHeartbeats 4000000 in
theorem pm_snd_objinit {nx a b c1 d : Nat} {i : Nat} (X : pm_X p s m args meth c D K base bb sc M) (hc : pm_chk M.1 M.2.1 M.2.2.2.1 M.2.2.2.2.1 pc ((.invokespecial i), nx, a, b, c1, d) = true) (P : pm_P D K base bb ad w s H locs) (L : pm_L ad bb rls ls) (hL : ls.length = M.2.2.1) (hdd : dd ≤ R.frames ∧ 64 * dd ≤ R.locals) (hR : cells + c2 ≤ R.cells ∧ slots + s2 ≤ R.slots)
    (hx : pm_x sc dd ((.invokespecial i), nx, a, b, c1, d) pc ls st w = some (.inl (pc', ls', st', w', c2, s2)))
    (kk : ∀ (ad' : Nat → Nat) (H' : Heap) (locs' : List Loc) (rls' : Array Slot), (∀ i, i < w.length → ad' i = ad i) → (c2 = 0 → ad' = ad) → pm_P D K base bb ad' w' s H' locs' → pm_L ad' bb rls' ls' → W p l e R s m args below meth c H' locs' (cells + c2) (slots + s2) Q (F0 m pc' rls' (st'.map (pm_tr ad' bb)))) :
    W p l e R s m args below meth c H locs cells slots Q (F0 m pc rls (st.map (pm_tr ad bb))) := by
  obtain ⟨hx0, hb, hml, hown, hts, hK, hX, hbb, hbs, hT, hnm⟩ := X
  obtain ⟨h1, h2⟩ := pm_chk_1 hc
  have hA : ∀ q : Nat, s.heap.size ≤ q → (fun q : Nat => base ≤ q) q := fun q h => Nat.le_trans hbs h
  obtain ⟨rfl, hd⟩ := pm_dec1 (k := 3) h1 h2
  have h3 : pm_ca.any (fun r => r.1 == M.2.2.2.2.1 && r.2.1 == i && (r.2.2.1 == 2 || r.2.2.1 == 4) && r.2.2.2.1 == a && r.2.2.2.2.1 == b && r.2.2.2.2.2.1 == c1 && r.2.2.2.2.2.2.1 == d) = true := by
    unfold pm_chk at hc
    simp only [Bool.and_eq_true] at hc
    exact hc.2
  obtain ⟨⟨o', i', k', a', b', c', d', p'⟩, hr, h3⟩ := List.any_eq_true.mp h3
  simp only [Bool.and_eq_true, beq_iff_eq] at h3
  obtain ⟨⟨⟨⟨⟨⟨e1, e2⟩, e3⟩, e4⟩, e5⟩, e6⟩, e7⟩ := h3
  have h4 := List.all_eq_true.mp pm_ca_ok _ hr
  replace hx : (bif Nat.beq a 998 then (bif Nat.beq dd 0 then none else pm_obj (pc + 3) ls st w) else pm_callI a b d st) = some _ := hx
  cases ha : Nat.beq a 998 with
  | false =>
    rw [ha, cond_false] at hx
    unfold pm_callI at hx
    have hx_0 := pm_bifn hx
    clear hx
    obtain ⟨-, hx⟩ := hx_0
    split at hx
    · have hx_0 := pm_bif hx
      clear hx
      obtain ⟨-, hx⟩ := hx_0
      cases hx
    · cases hx
  | true =>
    rw [ha, cond_true] at hx
    have ha := Nat.eq_of_beq_eq_true ha
    subst ha
    rw [e4] at h4
    have h5 := pm_at_mem (pm_okc_998 h4)
    rw [e1, e2] at h5
    have hx_0 := pm_bifn hx
    clear hx
    obtain ⟨hd0, hx⟩ := hx_0
    have hd1 : 1 ≤ dd := by
      rcases Nat.eq_zero_or_pos dd with h | h
      · subst h; cases hd0
      · exact h
    obtain ⟨q, r, rfl, hr8, hz⟩ := pm_obj_inv hx
    cases hz
    refine W.objInit hx0 hb hown (hts _ h5) (hts _ pm_w_obj.1) (hts _ pm_w_obj.2) rfl (by rw [hml, ← hL]; exact L.1) rfl hd (Nat.le_trans hd1 hdd.1) ?_ (kk ad H locs rls (fun _ _ => rfl) (fun _ => rfl) P L)
    show 2 * 0 + ((st'.map (pm_tr ad bb)).map fun v => v.category).sum + 12 ≤ R.locals
    rw [pm_cat_tr]
    have := hdd.2
    omega
set_option maxHeartbeats 4000000 in
theorem pm_snd_static {nx a b c1 d : Nat} {i : Nat} (X : pm_X p s m args meth c D K base bb sc M) (hc : pm_chk M.1 M.2.1 M.2.2.2.1 M.2.2.2.2.1 pc ((.invokestatic i), nx, a, b, c1, d) = true) (P : pm_P D K base bb ad w s H locs) (L : pm_L ad bb rls ls) (hL : ls.length = M.2.2.1) (hdd : dd ≤ R.frames ∧ 64 * dd ≤ R.locals) (hR : cells + c2 ≤ R.cells ∧ slots + s2 ≤ R.slots)
    (hx : pm_x sc dd ((.invokestatic i), nx, a, b, c1, d) pc ls st w = some (.inl (pc', ls', st', w', c2, s2)))
    (kk : ∀ (ad' : Nat → Nat) (H' : Heap) (locs' : List Loc) (rls' : Array Slot), (∀ i, i < w.length → ad' i = ad i) → (c2 = 0 → ad' = ad) → pm_P D K base bb ad' w' s H' locs' → pm_L ad' bb rls' ls' → W p l e R s m args below meth c H' locs' (cells + c2) (slots + s2) Q (F0 m pc' rls' (st'.map (pm_tr ad' bb)))) :
    W p l e R s m args below meth c H locs cells slots Q (F0 m pc rls (st.map (pm_tr ad bb))) := by
  obtain ⟨hx0, hb, hml, hown, hts, hK, hX, hbb, hbs, hT, hnm⟩ := X
  obtain ⟨h1, h2⟩ := pm_chk_1 hc
  have hA : ∀ q : Nat, s.heap.size ≤ q → (fun q : Nat => base ≤ q) q := fun q h => Nat.le_trans hbs h
  obtain ⟨rfl, hd⟩ := pm_dec1 (k := 3) h1 h2
  have h3 : pm_ca.any (fun r => r.1 == M.2.2.2.2.1 && r.2.1 == i && (r.2.2.1 == 1 || r.2.2.1 == 3) && r.2.2.2.1 == a && r.2.2.2.2.1 == b && r.2.2.2.2.2.1 == c1 && r.2.2.2.2.2.2.1 == d) = true := by
    unfold pm_chk at hc
    simp only [Bool.and_eq_true] at hc
    exact hc.2
  obtain ⟨⟨o', i', k', a', b', c', d', p'⟩, hr, h3⟩ := List.any_eq_true.mp h3
  simp only [Bool.and_eq_true, beq_iff_eq] at h3
  obtain ⟨⟨⟨⟨⟨⟨e1, e2⟩, e3⟩, e4⟩, e5⟩, e6⟩, e7⟩ := h3
  have h4 := List.all_eq_true.mp pm_ca_ok _ hr
  have nb : ∀ {x y : Nat}, Nat.beq x y = true → x = y := fun h => Nat.eq_of_beq_eq_true h
  have hdp : ∀ {α : Type} {x : Option α} {z : α}, (bif Nat.beq dd 0 then none else x) = some z → 1 ≤ dd ∧ x = some z := fun {α x z} h => by
    have h_0 := pm_bifn h
    clear h
    obtain ⟨hd0, h⟩ := h_0
    refine ⟨?_, h⟩
    rcases Nat.eq_zero_or_pos dd with h0 | h0
    · rw [h0] at hd0; cases hd0
    · exact h0
  have hdq : ∀ {r : List Value} {α : Type} {x : Option α} {z : α}, (bif Nat.beq dd 0 || Nat.blt 8 (pm_cat r) then none else x) = some z → 1 ≤ dd ∧ pm_cat r ≤ 8 ∧ x = some z := fun {r α x z} h => by
    have h_0 := pm_bifn h
    clear h
    obtain ⟨hd0, h⟩ := h_0
    simp only [Bool.or_eq_false_iff] at hd0
    refine ⟨?_, ?_, h⟩
    · rcases Nat.eq_zero_or_pos dd with h0 | h0
      · rw [h0] at hd0; cases hd0.1
      · exact h0
    · rcases Nat.lt_or_ge 8 (pm_cat r) with hq | hq
      · have := Nat.ble_eq_true_of_le hq
        rw [show Nat.ble (8 + 1) (pm_cat r) = false from hd0.2] at this
        cases this
      · exact hq
  replace hx : (bif Nat.beq a 999 then (bif Nat.beq dd 0 then none else pm_copy (pc + 3) ls st w)
      else bif Nat.beq a 997 then pm_ii st (fun x y r => bif Nat.beq dd 0 || Nat.blt 8 (pm_cat r) then none else pm_gi (pc + 3) ls (if x < y then y else x) r w)
      else bif Nat.beq a 996 then pm_ii st (fun x y r => bif Nat.beq dd 0 || Nat.blt 8 (pm_cat r) then none else pm_gi (pc + 3) ls (if y < x then y else x) r w)
      else pm_callS a b d st) = some _ := hx
  cases ha : Nat.beq a 999 with
  | true =>
    rw [ha, cond_true] at hx
    have ha := nb ha
    subst ha
    rw [e4] at h4
    have h5 := pm_at_mem (pm_okc_999 h4)
    rw [e1, e2] at h5
    have hx_0 := hdp hx
    clear hx
    obtain ⟨hd1, hx⟩ := hx_0
    obtain ⟨n, dp, q, sp, p2, r, rfl, hn, hdp, hsp, hr8, hz⟩ := pm_copy_inv hx
    have hlo : ((r.map (pm_tr ad bb)).map fun v => v.category).sum + (nativeFrameWords "java/lang/System" "arraycopy" 5 + 11) ≤ R.locals := by
      rw [pm_cat_tr]
      have h6 : nativeFrameWords "java/lang/System" "arraycopy" 5 ≤ 45 := by decide +kernel
      have := hdd.2
      omega
    have hml2 : c.maxLocals = rls.size := by rw [hml, ← hL]; exact L.1.symm
    rcases hz with ⟨xs, ys, hp, hq, g1, g2, hz⟩ | ⟨xs, ys, hp, hq, g1, g2, hz⟩
    · cases hz
      refine va_copyi hx0 hb hml2 hown (hts _ h5) (hts _ pm_w_cpy.1) (hts _ pm_w_cpy.2.1) (hts _ pm_w_cpy.2.2) hK P.1 P.2.1 P.2.2 p2 q 0 0 (pm_rw_at hp) (pm_rw_at hq) pm_tys0 pm_tys0 rfl hsp hdp hn g1 g2 (fun i _ => rfl) (Nat.le_trans hd1 hdd.1) hlo hd (fun H1 locs1 k1 k2 k3 => kk ad H1 locs1 rls (fun _ _ => rfl) (fun _ => rfl) (pm_P.put (cl := .inl (0, .inl ys)) _ ?_ k1 k2 k3) L)
      rw [pm_ce_i, pm_cpy_len _ _ _ _ _ g1 g2, ← pm_cpy_at _ _ _ _ _ g1 g2]
    · cases hz
      refine va_copyl hx0 hb hml2 hown (hts _ h5) (hts _ pm_w_cpy.1) (hts _ pm_w_cpy.2.1) (hts _ pm_w_cpy.2.2) hK P.1 P.2.1 P.2.2 p2 q 2 2 (pm_rw_at hp) (pm_rw_at hq) pm_tys2 pm_tys2 rfl hsp hdp hn g1 g2 (fun i _ => rfl) (Nat.le_trans hd1 hdd.1) hlo hd (fun H1 locs1 k1 k2 k3 => kk ad H1 locs1 rls (fun _ _ => rfl) (fun _ => rfl) (pm_P.put (cl := .inl (2, .inr (.inl ys))) _ ?_ k1 k2 k3) L)
      rw [pm_ce_l, pm_cpy_len _ _ _ _ _ g1 g2, ← pm_cpy_at _ _ _ _ _ g1 g2]
  | false =>
    rw [ha, cond_false] at hx
    cases ha7 : Nat.beq a 997 with
    | true =>
      rw [ha7, cond_true] at hx
      have ha := nb ha7
      subst ha
      rw [e4] at h4
      have h5 := pm_at_mem (pm_okc_997 h4)
      rw [e1, e2] at h5
      have hx_0 := pm_ii_inv hx
      clear hx
      obtain ⟨x, y, r, rfl, hx⟩ := hx_0
      have hx_0 := hdq hx
      clear hx
      obtain ⟨hd1, hr8, hx⟩ := hx_0
      cases pm_gi_inv hx
      refine va_mmax hx0 hb (by rw [hml, ← hL]; exact L.1.symm) hown (hts _ h5) (hts _ pm_w_max.1) (hts _ pm_w_max.2.2.1) (hts _ pm_w_max.2.2.2.1) (Nat.le_trans hd1 hdd.1) ?_ hR.1 hR.2 hd (kk ad H locs rls (fun _ _ => rfl) (fun _ => rfl) P L)
      show ((r.map (pm_tr ad bb)).map fun v => v.category).sum + 13 ≤ R.locals
      rw [pm_cat_tr]
      have := hdd.2
      omega
    | false =>
      rw [ha7, cond_false] at hx
      cases ha6 : Nat.beq a 996 with
      | true =>
        rw [ha6, cond_true] at hx
        have ha := nb ha6
        subst ha
        rw [e4] at h4
        have h5 := pm_at_mem (pm_okc_996 h4)
        rw [e1, e2] at h5
        have hx_0 := pm_ii_inv hx
        clear hx
        obtain ⟨x, y, r, rfl, hx⟩ := hx_0
        have hx_0 := hdq hx
        clear hx
        obtain ⟨hd1, hr8, hx⟩ := hx_0
        cases pm_gi_inv hx
        refine va_mmin hx0 hb (by rw [hml, ← hL]; exact L.1.symm) hown (hts _ h5) (hts _ pm_w_max.2.1) (hts _ pm_w_max.2.2.1) (hts _ pm_w_max.2.2.2.2) (Nat.le_trans hd1 hdd.1) ?_ hR.1 hR.2 hd (kk ad H locs rls (fun _ _ => rfl) (fun _ => rfl) P L)
        show ((r.map (pm_tr ad bb)).map fun v => v.category).sum + 13 ≤ R.locals
        rw [pm_cat_tr]
        have := hdd.2
        omega
      | false =>
        rw [ha6, cond_false] at hx
        unfold pm_callS at hx
        have hx_0 := pm_bifn hx
        clear hx
        obtain ⟨-, hx⟩ := hx_0
        have hx_0 := pm_bif hx
        clear hx
        obtain ⟨-, hx⟩ := hx_0
        cases hx
end PmStep
