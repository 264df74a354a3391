theorem pm_c1_cat {v : Value} (h : pm_c1 v = true) : v.category = 1 := by cases v <;> first | rfl | cases h
theorem pm_c2_cat {v : Value} (h : pm_c1 v = false) : v.category = 2 := by cases v <;> first | rfl | cases h
noncomputable def pm_tr (ad : Nat → Nat) (b : Nat) (v : Value) : Value := match v with
  | .ref k => .ref (ad k)
  | .retAddr _ => .ref b
  | v => v
theorem pm_tr_cat (ad : Nat → Nat) (b : Nat) (v : Value) : (pm_tr ad b v).category = v.category := by cases v <;> rfl
theorem pm_cat_tr (ad : Nat → Nat) (b : Nat) (r : List Value) : ((r.map (pm_tr ad b)).map fun v => v.category).sum = pm_cat r := by
  simp [pm_cat, List.map_map, Function.comp_def, pm_tr_cat]
/-- the array classes: of int, boolean, long, Beam -/
abbrev pm_K4 : Type := ClassId × ClassId × ClassId × ClassId
noncomputable def pm_cid (K : pm_K4) (t : Nat) : ClassId := match t with
  | 0 => K.1
  | 1 => K.2.1
  | 2 => K.2.2.1
  | _ => K.2.2.2
noncomputable def pm_tys (K : pm_K4) : List (ClassId × FieldType) := [(K.1, .int), (K.2.1, .boolean), (K.2.2.1, .long), (K.2.2.2, .object "DrawLooms$Beam")]
noncomputable def pm_ce (K : pm_K4) (ad : Nat → Nat) (b : Nat) (c : pm_C) : va_E := match c with
  | .inr (ci, fs) => .inr (ci, fs.map (pm_tr ad b))
  | .inl (t, .inl xs) => .inl (pm_cid K t, xs.length, .inl (fun j => xs.getD j 0))
  | .inl (t, .inr (.inl xs)) => .inl (pm_cid K t, xs.length, .inr (.inl (fun j => xs.getD j 0)))
  | .inl (t, .inr (.inr xs)) => .inl (pm_cid K t, xs.length, .inr (.inr (.inr (.inr (fun j => (xs.getD j none).map ad)))))
theorem pm_ce_o {K : pm_K4} {ad : Nat → Nat} {b ci : Nat} {fs : List Value} : pm_ce K ad b (.inr (ci, fs)) = .inr (ci, fs.map (pm_tr ad b)) := rfl
theorem pm_ce_i {K : pm_K4} {ad : Nat → Nat} {b t : Nat} {xs : List Int32} : pm_ce K ad b (.inl (t, .inl xs)) = .inl (pm_cid K t, xs.length, .inl (fun j => xs.getD j 0)) := rfl
theorem pm_ce_l {K : pm_K4} {ad : Nat → Nat} {b t : Nat} {xs : List Int64} : pm_ce K ad b (.inl (t, .inr (.inl xs))) = .inl (pm_cid K t, xs.length, .inr (.inl (fun j => xs.getD j 0))) := rfl
theorem pm_ce_a {K : pm_K4} {ad : Nat → Nat} {b t : Nat} {xs : List (Option Nat)} : pm_ce K ad b (.inl (t, .inr (.inr xs))) = .inl (pm_cid K t, xs.length, .inr (.inr (.inr (.inr (fun j => (xs.getD j none).map ad))))) := rfl
noncomputable def pm_rw (K : pm_K4) (ad : Nat → Nat) (b : Nat) (w : pm_W) : va_W := w.mapIdx (fun i c => (ad i, pm_ce K ad b c))
theorem pm_rw_at {K : pm_K4} {ad : Nat → Nat} {b : Nat} {w : pm_W} {q : Nat} {c : pm_C} (h : w[q]? = some c) : (pm_rw K ad b w)[q]? = some (ad q, pm_ce K ad b c) := by simp [pm_rw, List.getElem?_mapIdx, h]
theorem pm_rw_set {K : pm_K4} {ad : Nat → Nat} {b : Nat} {w : pm_W} {q : Nat} {c : pm_C} : (pm_rw K ad b w).set q (ad q, pm_ce K ad b c) = pm_rw K ad b (w.set q c) := by
  apply List.ext_getElem?
  intro i
  simp only [pm_rw, List.getElem?_set, List.getElem?_mapIdx, List.length_mapIdx]
  by_cases h : q = i
  · subst h
    by_cases hq : q < w.length <;> simp [hq]
  · simp [h]
/-- locals -/
def pm_L (ad : Nat → Nat) (b : Nat) (rls : Array Slot) (ls : List Value) : Prop := rls.size = ls.length ∧ lv_wf rls ∧ ∀ (i : Nat) (v : Value), ls[i]? = some v → v ≠ .null → rls[i]? = some (.val (pm_tr ad b v))
noncomputable def pm_lv1 (ad : Nat → Nat) (b : Nat) (ls : List Value) (i : Nat) : Option (Nat × Value) := match ls[i]? with
  | some v => if v = .null then none else some (i, pm_tr ad b v)
  | none => none
noncomputable def pm_lv (ad : Nat → Nat) (b : Nat) (ls : List Value) : List (Nat × Value) := (List.range ls.length).filterMap (pm_lv1 ad b ls)
theorem pm_lv_mem {ad : Nat → Nat} {b : Nat} {ls : List Value} {i : Nat} {x : Value} : (i, x) ∈ pm_lv ad b ls ↔ ∃ v, ls[i]? = some v ∧ v ≠ .null ∧ x = pm_tr ad b v := by
  unfold pm_lv
  rw [List.mem_filterMap]
  constructor
  · rintro ⟨j, hj, h⟩
    unfold pm_lv1 at h
    split at h
    · rename_i v hv
      split at h
      · cases h
      · rename_i hn
        cases h
        exact ⟨v, hv, hn, rfl⟩
    · cases h
  · rintro ⟨v, h1, h2, h3⟩
    refine ⟨i, List.mem_range.mpr (List.getElem?_eq_some_iff.mp h1).1, ?_⟩
    unfold pm_lv1
    rw [h1, h3]
    simp [h2]
theorem pm_L.has {ad : Nat → Nat} {b : Nat} {rls : Array Slot} {ls : List Value} (h : pm_L ad b rls ls) : lv_has rls ls.length (pm_lv ad b ls) := ⟨h.1, h.2.1, fun q hq => by
  obtain ⟨v, h1, h2, h3⟩ := pm_lv_mem.mp (show (q.1, q.2) ∈ _ from hq)
  rw [h3]
  exact h.2.2 _ _ h1 h2⟩
theorem pm_cl_len (ls : List Value) (i : Nat) : (pm_cl ls i).length = ls.length := by
  cases i with
  | zero => rfl
  | succ j =>
    show (match ls[j]? with
      | some v => bif pm_c1 v then ls else ls.set j .null
      | none => ls).length = ls.length
    cases ls[j]? with
    | none => rfl
    | some v => cases h : pm_c1 v <;> simp [h]
theorem pm_cl_get {ls : List Value} {i j : Nat} {u : Value} (h : (pm_cl ls i)[j]? = some u) (hu : u ≠ .null) : ls[j]? = some u ∧ (j + 1 = i → pm_c1 u = true) := by
  cases i with
  | zero => exact ⟨h, by omega⟩
  | succ k =>
    unfold pm_cl at h
    cases hk : ls[k]? with
    | none =>
      simp only [hk] at h
      refine ⟨h, fun e => ?_⟩
      have e : j = k := by omega
      subst e
      rw [hk] at h
      cases h
    | some v =>
      simp only [hk] at h
      cases hc : pm_c1 v with
      | true =>
        rw [hc] at h
        refine ⟨h, fun e => ?_⟩
        have e : j = k := by omega
        subst e
        have h : ls[j]? = some u := h
        rw [hk] at h
        cases h
        exact hc
      | false =>
        rw [hc] at h
        have h : (ls.set k .null)[j]? = some u := h
        by_cases e : k = j
        · subst e
          rw [List.getElem?_set] at h
          simp at h
          exact absurd h.2.symm hu
        · rw [List.getElem?_set_ne e] at h
          exact ⟨h, fun e2 => absurd (by omega) e⟩
theorem pm_s1_len (ls : List Value) (i : Nat) (v : Value) : (pm_s1 ls i v).length = ls.length := by simp [pm_s1, pm_cl_len]
theorem pm_s2_len (ls : List Value) (i : Nat) (v : Value) : (pm_s2 ls i v).length = ls.length := by simp [pm_s2, pm_cl_len]
theorem pm_L.s1 {ad : Nat → Nat} {b i : Nat} {rls' : Array Slot} {ls : List Value} {v : Value} {lv : List (Nat × Value)} (hlv : ∀ q ∈ pm_lv ad b ls, q ∈ lv) (h : lv_has rls' ls.length ((i, pm_tr ad b v) :: lv.filter (fun q => !(q.1 == i) && !(q.1 + 1 == i && q.2.category == 2)))) (hi : i < ls.length) : pm_L ad b rls' (pm_s1 ls i v) := by
  refine ⟨by rw [pm_s1_len]; exact h.1, h.2.1, fun j u hu hn => ?_⟩
  by_cases hj : j = i
  · subst hj
    unfold pm_s1 at hu
    rw [List.getElem?_set_self (by rw [pm_cl_len]; exact hi)] at hu
    cases hu
    exact h.2.2 (j, pm_tr ad b v) List.mem_cons_self
  · unfold pm_s1 at hu
    rw [List.getElem?_set_ne (Ne.symm hj)] at hu
    obtain ⟨h1, h2⟩ := pm_cl_get hu hn
    refine h.2.2 (j, pm_tr ad b u) (List.mem_cons_of_mem _ (List.mem_filter.mpr ⟨hlv _ (pm_lv_mem.mpr ⟨u, h1, hn, rfl⟩), ?_⟩))
    by_cases e : j + 1 = i
    · have h3 := pm_c1_cat (h2 e)
      simp [hj, e, pm_tr_cat, h3]
    · simp [hj, e]
theorem pm_L.s2 {ad : Nat → Nat} {b i : Nat} {rls' : Array Slot} {ls : List Value} {v : Value} (h : lv_has rls' ls.length ((i, pm_tr ad b v) :: (pm_lv ad b ls).filter (fun q => !(q.1 == i) && (!(q.1 == i + 1) && !(q.1 + 1 == i && q.2.category == 2))))) (hi : i + 1 < ls.length) : pm_L ad b rls' (pm_s2 ls i v) := by
  refine ⟨by rw [pm_s2_len]; exact h.1, h.2.1, fun j u hu hn => ?_⟩
  unfold pm_s2 at hu
  by_cases hj1 : j = i + 1
  · subst hj1
    rw [List.getElem?_set_self (by rw [List.length_set, pm_cl_len]; exact hi)] at hu
    cases hu
    exact absurd rfl hn
  · rw [List.getElem?_set_ne (Ne.symm hj1)] at hu
    by_cases hj : j = i
    · subst hj
      rw [List.getElem?_set_self (by rw [pm_cl_len]; omega)] at hu
      cases hu
      exact h.2.2 (j, pm_tr ad b v) List.mem_cons_self
    · rw [List.getElem?_set_ne (Ne.symm hj)] at hu
      obtain ⟨h1, h2⟩ := pm_cl_get hu hn
      refine h.2.2 (j, pm_tr ad b u) (List.mem_cons_of_mem _ (List.mem_filter.mpr ⟨pm_lv_mem.mpr ⟨u, h1, hn, rfl⟩, ?_⟩))
      by_cases e : j + 1 = i
      · have h3 := pm_c1_cat (h2 e)
        simp [hj, hj1, e, pm_tr_cat, h3]
      · simp [hj, hj1, e]
/-- other addresses, the same where references go -/
theorem pm_blt {a b : Nat} (h : Nat.blt a b = true) : a < b := Nat.le_of_ble_eq_true h
theorem pm_tr_ad {ad ad' : Nat → Nat} {b n : Nat} {v : Value} (h : pm_okv n v = true) (e : ∀ i, i < n → ad' i = ad i) : pm_tr ad' b v = pm_tr ad b v := by
  cases v with
  | ref k => exact congrArg Value.ref (e k (pm_blt h))
  | _ => rfl
theorem pm_map_ad {ad ad' : Nat → Nat} {b n : Nat} {vs : List Value} (h : pm_okl n vs = true) (e : ∀ i, i < n → ad' i = ad i) : vs.map (pm_tr ad' b) = vs.map (pm_tr ad b) := List.map_congr_left fun v hv => pm_tr_ad (List.all_eq_true.mp h v hv) e
theorem pm_L.ad {ad ad' : Nat → Nat} {b n : Nat} {rls : Array Slot} {ls : List Value} (h : pm_L ad b rls ls) (ok : pm_okl n ls = true) (e : ∀ i, i < n → ad' i = ad i) : pm_L ad' b rls ls := ⟨h.1, h.2.1, fun i v hv hn => by
  rw [pm_tr_ad (List.all_eq_true.mp ok v (List.mem_of_getElem? hv)) e]
  exact h.2.2 i v hv hn⟩
theorem pm_ce_ad {K : pm_K4} {ad ad' : Nat → Nat} {b n : Nat} {c : pm_C} (h : pm_okC n c = true) (e : ∀ i, i < n → ad' i = ad i) : pm_ce K ad' b c = pm_ce K ad b c := by
  rcases c with ⟨t, xs | xs | xs⟩ | ⟨ci, fs⟩
  · rfl
  · rfl
  · have h : xs.all (pm_oko n) = true := h
    have hf : (fun j => (xs.getD j none).map ad') = fun j => (xs.getD j none).map ad := by
      funext j
      cases hj : xs[j]? with
      | none => simp [List.getD, hj]
      | some o =>
        cases o with
        | none => simp [List.getD, hj]
        | some k =>
          have := List.all_eq_true.mp h _ (List.mem_of_getElem? hj)
          simp [List.getD, hj, e k (pm_blt this)]
    rw [pm_ce_a, pm_ce_a, hf]
  · rw [pm_ce_o, pm_ce_o, pm_map_ad h e]
theorem pm_rw_ad {K : pm_K4} {ad ad' : Nat → Nat} {b : Nat} {w : pm_W} (h : pm_okW w = true) (e : ∀ i, i < w.length → ad' i = ad i) : pm_rw K ad' b w = pm_rw K ad b w := by
  apply List.ext_getElem?
  intro i
  simp only [pm_rw, List.getElem?_mapIdx]
  cases hi : w[i]? with
  | none => rfl
  | some c =>
    simp only [Option.map_some]
    rw [pm_ce_ad (List.all_eq_true.mp h c (List.mem_of_getElem? hi)) e, e i (List.getElem?_eq_some_iff.mp hi).1]
theorem pm_rw_push {K : pm_K4} {ad : Nat → Nat} {b : Nat} {w : pm_W} {c : pm_C} : pm_rw K ad b (w ++ [c]) = pm_rw K ad b w ++ [(ad w.length, pm_ce K ad b c)] := by
  simp [pm_rw, List.mapIdx_append]
/-- facts of a checked entry -/
theorem pm_dec1 {cc : ByteArray} {ins : Instr} {pc nx k : Nat} (h1 : decode cc pc = .ok (ins, nx - pc)) (h2 : Nat.beq nx (pc + k) = true) : nx = pc + k ∧ decode cc pc = .ok (ins, k) := by
  have e := Nat.eq_of_beq_eq_true h2
  subst e
  rw [Nat.add_sub_cancel_left] at h1
  exact ⟨rfl, h1⟩
theorem pm_chk_1 {y : MethodName} {cc : ByteArray} {ret : Option FieldType} {o pc : Nat} {e : pm_E} (h : pm_chk y cc ret o pc e = true) : decode cc pc = .ok (e.1, e.2.1 - pc) ∧ pm_ilok pc e = true := by
  unfold pm_chk at h
  simp only [Bool.and_eq_true, decide_eq_true_eq] at h
  exact h.1
theorem pm_fl_use {o i a b : Nat} (h : pm_fl.any (fun r => r.1 == o && r.2.1 == i && r.2.2.1 == a && r.2.2.2.1 == b) = true) : ∃ (C : String) (T : u_T) (N : Nat), vwCl[a]? = some (C, T, N) ∧ b < N ∧ Cond.fieldLink (pm_nm o) i (T b).1 (T b).2.1 (T b).2.2.1 ∈ pm_ws ∧ (pm_fin a b = true → o = a → (T b).1 = pm_nm o) := by
  obtain ⟨⟨o', i', a', b', p'⟩, hr, h⟩ := List.any_eq_true.mp h
  simp only [Bool.and_eq_true, beq_iff_eq] at h
  obtain ⟨⟨⟨rfl, rfl⟩, rfl⟩, rfl⟩ := h
  have h := List.all_eq_true.mp pm_fl_ok _ hr
  unfold pm_okf at h
  dsimp only at h
  cases hv : vwCl[a']? with
  | none => rw [hv] at h; cases h
  | some q =>
    obtain ⟨C, T, N⟩ := q
    rw [hv] at h
    simp only [Bool.and_eq_true] at h
    refine ⟨C, T, N, rfl, pm_blt h.1.1, pm_at_mem h.1.2, fun h1 h2 => ?_⟩
    have h3 := h.2
    rw [h1, h2] at h3
    rw [h2]
    simpa using h3
theorem pm_fin_eq {a b : Nat} {C : String} {T : u_T} {N : Nat} (h : vwCl[a]? = some (C, T, N)) : pm_fin a b = (T b).2.2.2 := by simp [pm_fin, h]
theorem pm_okF_ok {ad : Nat → Nat} {b : Nat} {ty : FieldType} {v : Value} (h : pm_okF ty v = true) : narrow ty (pm_tr ad b v) = pm_tr ad b v ∧ fits ty (pm_tr ad b v) = true := by
  unfold pm_okF at h
  split at h
  · exact ⟨rfl, rfl⟩
  · rename_i x
    simp only [Bool.or_eq_true, decide_eq_true_eq] at h
    rcases h with rfl | rfl <;> exact ⟨rfl, rfl⟩
  · exact ⟨rfl, rfl⟩
  · exact ⟨rfl, rfl⟩
  · cases h

