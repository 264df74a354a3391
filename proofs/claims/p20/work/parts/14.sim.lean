theorem pm_step_inv {sc : pm_S} {ih : Nat → Nat → Nat → List Value → List Value → pm_W → Nat → Nat → pm_R} {d mi pc : Nat} {ls st : List Value} {w : pm_W} {kc ks : Nat} {z : Option Value × pm_W × Nat × Nat} (h : pm_step sc ih d mi pc ls st w kc ks = some z) : ∃ e, pm_code mi pc = some e ∧
    ((∃ pc' ls' st' w' c s, pm_x sc d e pc ls st w = some (.inl (pc', ls', st', w', c, s)) ∧ ih d mi pc' ls' st' w' (kc + c) (ks + s) = some z) ∨
     (∃ rv, pm_x sc d e pc ls st w = some (.inr (.inr rv)) ∧ z = (rv, w, kc, ks)) ∨
     (∃ mj as r mL d' rv w' c s, d = d' + 1 ∧ pm_x sc d e pc ls st w = some (.inr (.inl (mj, as, r, mL))) ∧ Nat.blt mL (pm_arg as).length = false ∧ ih d' mj 0 (pm_ent as mL) [] w 0 0 = some (rv, w', c, s) ∧ (c = 0 ∨ (pm_okl w.length ls = true ∧ pm_okl w.length r = true)) ∧ ih (d' + 1) mi e.2.1 ls (pm_rv rv r) w' (kc + c) (ks + s) = some z)) := by
  unfold pm_step at h
  split at h
  · cases h
  · rename_i e he
    refine ⟨e, he, ?_⟩
    split at h
    · cases h
    · rename_i pc' ls' st' w' c s hx
      refine Or.inl ⟨pc', ls', st', w', c, s, hx, ?_⟩
      cases hb : Nat.beq (c + s) 0 with
      | true =>
        rw [hb, cond_true] at h
        have := Nat.eq_of_beq_eq_true hb
        rw [show c = 0 by omega, show s = 0 by omega]
        exact h
      | false =>
        rw [hb, cond_false] at h
        exact h
    · rename_i rv hx
      exact Or.inr (Or.inl ⟨rv, hx, (Option.some.inj h).symm⟩)
    · rename_i mj as r mL hx
      refine Or.inr (Or.inr ?_)
      cases d with
      | zero => cases h
      | succ d' =>
        dsimp only at h
        have h_0 := pm_bifn h
        clear h
        obtain ⟨hl, h⟩ := h_0
        split at h
        · cases h
        · rename_i rv w' c s hr
          refine ⟨mj, as, r, mL, d', rv, w', c, s, rfl, hx, hl, hr, ?_⟩
          cases hb : Nat.beq (c + s) 0 with
          | true =>
            rw [hb, cond_true] at h
            have := Nat.eq_of_beq_eq_true hb
            refine ⟨Or.inl (by omega), ?_⟩
            rw [show c = 0 by omega, show s = 0 by omega]
            exact h
          | false =>
            rw [hb, cond_false] at h
            have h_0 := pm_bif h
            rw [Bool.and_eq_true] at h_0
            exact ⟨Or.inr h_0.1, h_0.2⟩
theorem pm_run_mono (sc : pm_S) (n : Nat) : ∀ (d mi pc : Nat) (ls st : List Value) (w : pm_W) (kc ks : Nat) (rv : Option Value) (w2 : pm_W) (kc2 ks2 : Nat), pm_run sc n d mi pc ls st w kc ks = some (rv, w2, kc2, ks2) → kc ≤ kc2 ∧ ks ≤ ks2 ∧ w.length ≤ w2.length := by
  induction n with
  | zero => intro d mi pc ls st w kc ks rv w2 kc2 ks2 h; cases h
  | succ n ih =>
    intro d mi pc ls st w kc ks rv w2 kc2 ks2 h
    rw [pm_run_succ] at h
    obtain ⟨e, -, h1 | h1 | h1⟩ := pm_step_inv h
    · obtain ⟨pc', ls', st', w', c, s, hx, h2⟩ := h1
      have g1 := ih _ _ _ _ _ _ _ _ _ _ _ _ h2
      have g2 := (pm_x_len hx).2
      omega
    · obtain ⟨rv', hx, h2⟩ := h1
      cases h2
      exact ⟨Nat.le_refl _, Nat.le_refl _, Nat.le_refl _⟩
    · obtain ⟨mj, as, r, mL, d', rv', w', c, s, -, -, -, h2, -, h3⟩ := h1
      have g1 := ih _ _ _ _ _ _ _ _ _ _ _ _ h2
      have g2 := ih _ _ _ _ _ _ _ _ _ _ _ _ h3
      omega
theorem pm_ent_len {as : List Value} {mL : Nat} (h : Nat.blt mL (pm_arg as).length = false) : (pm_ent as mL).length = mL := by
  have h1 : ¬ mL < (pm_arg as).length := fun g => by
    have g1 : Nat.blt mL (pm_arg as).length = true := Nat.ble_eq_true_of_le g
    rw [g1] at h; cases h
  simp only [pm_ent, List.length_append, List.length_replicate]
  omega
theorem pm_arg_sl (ad : Nat → Nat) (b : Nat) : ∀ as : List Value, (lg_sl (as.map (pm_tr ad b))).length = (pm_arg as).length ∧ ∀ (i : Nat) (v : Value), (pm_arg as)[i]? = some v → v ≠ .null → (lg_sl (as.map (pm_tr ad b)))[i]? = some (.val (pm_tr ad b v)) := by
  intro as
  induction as with
  | nil => exact ⟨rfl, fun i v h => by simp [pm_arg] at h⟩
  | cons x as ih =>
    obtain ⟨ih1, ih2⟩ := ih
    have e1 : lg_sl ((x :: as).map (pm_tr ad b)) = (if (pm_tr ad b x).category = 2 then [Slot.val (pm_tr ad b x), .second] else [.val (pm_tr ad b x)]) ++ lg_sl (as.map (pm_tr ad b)) := by simp [lg_sl]
    have e2 : pm_arg (x :: as) = (bif pm_c1 x then [x] else [x, .null]) ++ pm_arg as := by simp [pm_arg]
    rw [e1, e2]
    cases hc : pm_c1 x with
    | true =>
      have hx : ¬ (pm_tr ad b x).category = 2 := by rw [pm_tr_cat, pm_c1_cat hc]; omega
      rw [if_neg hx]
      refine ⟨by simp [ih1], fun i v h hv => ?_⟩
      cases i with
      | zero =>
        simp at h
        subst h
        simp
      | succ i =>
        simp at h
        simp
        exact ih2 i v h hv
    | false =>
      have hx : (pm_tr ad b x).category = 2 := by rw [pm_tr_cat, pm_c2_cat hc]
      rw [if_pos hx]
      refine ⟨by simp [ih1], fun i v h hv => ?_⟩
      match i, h with
      | 0, h =>
        simp at h
        subst h
        simp
      | 1, h =>
        simp at h
        exact absurd h.symm hv
      | i + 2, h =>
        simp at h
        simp
        exact ih2 i v h hv
/-- what a method finds, and leaves -/
def pm_B (D : va_G) (K : pm_K4) (base bb : Nat) (sc : pm_S) (ad : Nat → Nat) (w : pm_W) (U : State) : Prop := base ≤ U.heap.size ∧ va_K D vwCl (pm_tys K) U ∧ (∀ L xs, sc = some (L, xs) → va_X bb L xs U U.heap) ∧ pm_T U ∧ va_P D vwCl (pm_rw K ad bb w) U.heap ∧ va_D (fun q => base ≤ q) (pm_rw K ad bb w)
def pm_E2 (D : va_G) (K : pm_K4) (base bb : Nat) (ad : Nat → Nat) (w w2 : pm_W) (mc : Nat) (ad' : Nat → Nat) (t : State) : Prop := (∀ i, i < w.length → ad' i = ad i) ∧ (mc = 0 → ad' = ad) ∧ va_P D vwCl (pm_rw K ad' bb w2) t.heap ∧ va_D (fun q => base ≤ q) (pm_rw K ad' bb w2)
def pm_Q (D : va_G) (K : pm_K4) (base bb : Nat) (ad : Nat → Nat) (w w2 : pm_W) (mc : Nat) (rv : Option Value) : Array Value → State → Outcome → State → Prop := match rv with
  | some (.int x) => va_Qi (fun r (_ : Nat → Nat) => r = x) (pm_E2 D K base bb ad w w2 mc) (fun q => base ≤ q)
  | none => va_Qv (fun (_ : Nat → Nat) => True) (pm_E2 D K base bb ad w w2 mc) (fun q => base ≤ q)
  | _ => fun _ _ _ _ => False
def pm_ret (M : pm_M) (rv : Option Value) (pc : Nat) : Prop := match rv with
  | some (.int x) => decode M.2.1 pc = .ok (.ireturn, 1) ∧ ∃ ty, M.2.2.2.1 = some ty ∧ narrow ty (.int x) = .int x
  | none => decode M.2.1 pc = .ok (.return_, 1) ∧ M.2.2.2.1 = none
  | _ => False
theorem pm_T.same {u U : State} (h : pm_T u) (hv : u.vm = U.vm) : pm_T U := ⟨fun a i x g hm => (h.1 a i x g hm).same rfl hv, va_AO.moved (by rw [← hv]; exact Vm.Alike.refl _) h.2⟩
theorem pm_T.warm {s U : State} (h : pm_T s) (hW : s.WarmedH U.vm) : pm_T U := ⟨fun a i x g hm => va_Nw.warmM hW (h.1 a i x g hm), va_AO.moved hW.alike h.2⟩
theorem pm_B.blind {D : va_G} {K : pm_K4} {base bb : Nat} {sc : pm_S} {ad : Nat → Nat} {w : pm_W} {av : List Value} : FrameBlind (va_Pc av (pm_B D K base bb sc ad w)) := by
  intro a U g mk q
  obtain ⟨q0, q1, q2, q3, q4, q5, q6⟩ := q
  exact ⟨q0, q1, va_K.moved (u := U) (U := U.calling g mk a) (Vm.Alike.refl U.vm) q2, fun L xs h => va_X.moved (u := U) (U := U.calling g mk a) (Vm.Alike.refl U.vm) (q3 L xs h), pm_T.same (U := U.calling g mk a) q4 rfl, q5, q6⟩
/-- the links of a call -/
theorem pm_mt_use {mj : Nat} {M : pm_M} {q : Nat × Nat × Nat × Nat × Nat} (hM : pm_mt[mj]? = some M) (hq : pm_mp[mj]? = some q) (hl : mj < 186) : Cond.code M.1 M.2.1 M.2.2.1 M.2.2.2.1 ∈ pm_ws ∧ pm_okm M q = true := by
  constructor
  · have h1 : pm_cw M ∈ (pm_mt.take 186).map pm_cw := List.mem_map.mpr ⟨M, List.mem_of_getElem? (i := mj) (by rw [List.getElem?_take_of_lt hl]; exact hM), rfl⟩
    rw [pm_cw_ok] at h1
    obtain ⟨r, -, hr⟩ := List.mem_filterMap.mp h1
    exact pm_mem hr rfl
  · have h1 := List.all_eq_true.mp pm_mt_ok (M, q) (List.mem_of_getElem? (i := mj) (by rw [List.getElem?_take_of_lt hl, List.getElem?_zip_eq_some]; exact ⟨hM, hq⟩))
    exact h1
theorem pm_okm_use {M : pm_M} {q : Nat × Nat × Nat × Nat × Nat} (h : pm_okm M q = true) : Cond.initialized M.1.cls ∈ pm_ws ∧ M.1.cls = pm_nm M.2.2.2.2.1 ∧ Jvm.plainName M.1.cls = true ∧ (M.1.cls ≠ "java/lang/invoke/MethodHandle" ∧ M.1.cls ≠ "java/lang/invoke/VarHandle") ∧ M.2.2.1 ≤ 20 ∧
    (q.2.1 = 1 → Cond.static M.1 ∈ pm_ws) ∧ (q.2.1 = 2 → Cond.instanceMethod M.1 ∈ pm_ws ∧ M.1.name = "<init>" ∧ M.2.2.2.1 = none) ∧ (q.2.1 = 0 → Cond.instanceMethod M.1 ∈ pm_ws ∧ Cond.selects M.1.cls M.1 M.1 ∈ pm_ws) := by
  unfold pm_okm at h
  simp only [Bool.and_eq_true, decide_eq_true_eq] at h
  obtain ⟨⟨⟨⟨⟨h1, h2⟩, h3⟩, h4⟩, h5⟩, h6⟩ := h
  refine ⟨pm_at_mem h1, h2, h3, h4, Nat.le_of_ble_eq_true h5, fun e => ?_, fun e => ?_, fun e => ?_⟩
  · rw [e] at h6
    exact pm_at_mem h6
  · rw [e] at h6
    replace h6 : (pm_at q.2.2.1 (.instanceMethod M.1) && decide (M.1.name = "<init>") && decide (M.2.2.2.1 = none)) = true := h6
    simp only [Bool.and_eq_true, decide_eq_true_eq] at h6
    exact ⟨pm_at_mem h6.1.1, h6.1.2, h6.2⟩
  · rw [e] at h6
    replace h6 : (pm_at q.2.2.1 (.instanceMethod M.1) && pm_at q.2.2.2.1 (.selects M.1.cls M.1 M.1)) = true := h6
    simp only [Bool.and_eq_true] at h6
    exact ⟨pm_at_mem h6.1, pm_at_mem h6.2⟩
theorem pm_okc_use {o i k a b c d p : Nat} (h : pm_okc (o, i, k, a, b, c, d, p) = true) (h8 : a ≠ 998) (h9 : a ≠ 999) (h7 : a ≠ 997) (h6 : a ≠ 996) : ∃ M q, pm_mt[a]? = some M ∧ pm_mp[a]? = some q ∧ M.2.2.1 = d ∧ (parseMethodDescriptor M.1.desc).map (fun d => d.parameters.length) = some b ∧
    (k = 0 → q.2.1 = 0 ∧ Cond.methodLink (pm_nm o) i M.1 ∈ pm_ws ∧ (vwCl[c]?).map (fun q => q.1) = some M.1.cls) ∧
    (k = 1 → q.2.1 = 1 ∧ Cond.methodLink (pm_nm o) i M.1 ∈ pm_ws) ∧ (k = 3 → q.2.1 = 1 ∧ Cond.methodLinkNest (pm_nm o) i M.1 "DrawLooms" ∈ lw_tbl) ∧
    (k = 2 → q.2.1 = 2 ∧ Cond.methodLink (pm_nm o) i M.1 ∈ pm_ws) ∧ (k = 4 → q.2.1 = 2 ∧ Cond.methodLinkNest (pm_nm o) i M.1 "DrawLooms" ∈ lw_tbl) := by
  unfold pm_okc at h
  dsimp only at h
  rw [beq_eq_false_iff_ne.mpr h8, cond_false, beq_eq_false_iff_ne.mpr h9, cond_false, beq_eq_false_iff_ne.mpr h7, cond_false, beq_eq_false_iff_ne.mpr h6, cond_false] at h
  split at h
  · rename_i M q hM hq
    simp only [Bool.and_eq_true, beq_iff_eq, decide_eq_true_eq] at h
    obtain ⟨⟨g1, g2⟩, g3⟩ := h
    refine ⟨M, q, hM, hq, g1, g2, fun e => ?_, fun e => ?_, fun e => ?_, fun e => ?_, fun e => ?_⟩
    · subst e
      replace g3 : (q.2.1 == 0 && pm_at p (.methodLink (pm_nm o) i M.1) && decide ((vwCl[c]?).map (fun q => q.1) = some M.1.cls)) = true := g3
      simp only [Bool.and_eq_true, beq_iff_eq, decide_eq_true_eq] at g3
      exact ⟨g3.1.1, pm_at_mem g3.1.2, g3.2⟩
    · subst e
      replace g3 : (q.2.1 == 1 && pm_at p (.methodLink (pm_nm o) i M.1)) = true := g3
      simp only [Bool.and_eq_true, beq_iff_eq] at g3
      exact ⟨g3.1, pm_at_mem g3.2⟩
    · subst e
      replace g3 : (q.2.1 == 1 && decide (lw_tbl[p]? = some (.methodLinkNest (pm_nm o) i M.1 "DrawLooms"))) = true := g3
      simp only [Bool.and_eq_true, beq_iff_eq, decide_eq_true_eq] at g3
      exact ⟨g3.1, List.mem_of_getElem? g3.2⟩
    · subst e
      replace g3 : (q.2.1 == 2 && pm_at p (.methodLink (pm_nm o) i M.1)) = true := g3
      simp only [Bool.and_eq_true, beq_iff_eq] at g3
      exact ⟨g3.1, pm_at_mem g3.2⟩
    · subst e
      replace g3 : (4 == 4 && q.2.1 == 2 && decide (lw_tbl[p]? = some (.methodLinkNest (pm_nm o) i M.1 "DrawLooms"))) = true := g3
      simp only [Bool.and_eq_true, beq_iff_eq, decide_eq_true_eq] at g3
      exact ⟨g3.1.2, List.mem_of_getElem? g3.2⟩
  · cases h
theorem pm_goodV {own : String} {i : Nat} {C : String} {y : MethodName} {ws : List Cond} (h1 : Cond.methodLink own i y ∈ pm_ws) (h2 : Cond.instanceMethod y ∈ pm_ws) (h3 : Cond.selects C y y ∈ pm_ws) (h4 : Cond.initialized C ∈ pm_ws) (h5 : GoodIn pm_ws ws) : GoodIn pm_ws (wsV own i C y ws) := by
  have g : ∀ w ∈ pm_ws, w ∈ pm_ws ∧ ((w.onTables && w.keeps) = true ∨ ∃ ty, w = .arrayClass ty) := fun w hw => ⟨hw, good_of_word (List.mem_filter.mp hw).2⟩
  intro w hw
  unfold wsV at hw
  rcases List.mem_append.mp hw with hw | hw
  · simp only [List.mem_cons, List.not_mem_nil, or_false] at hw
    rcases hw with rfl | rfl | rfl | rfl
    · exact g _ h1
    · exact g _ h2
    · exact g _ h3
    · exact g _ h4
  · exact h5 w hw
theorem pm_goodS {own : String} {i : Nat} {y : MethodName} {ws : List Cond} (h1 : Cond.methodLink own i y ∈ pm_ws) (h2 : Cond.static y ∈ pm_ws) (h4 : Cond.initialized y.cls ∈ pm_ws) (h5 : GoodIn pm_ws ws) : GoodIn pm_ws (va_wsS own i y ws) := by
  have g : ∀ w ∈ pm_ws, w ∈ pm_ws ∧ ((w.onTables && w.keeps) = true ∨ ∃ ty, w = .arrayClass ty) := fun w hw => ⟨hw, good_of_word (List.mem_filter.mp hw).2⟩
  intro w hw
  unfold va_wsS at hw
  rcases List.mem_append.mp hw with hw | hw
  · simp only [List.mem_cons, List.not_mem_nil, or_false] at hw
    rcases hw with rfl | rfl | rfl
    · exact g _ h1
    · exact g _ h2
    · exact g _ h4
  · exact h5 w hw
/-- what a run says of the real machine -/
def pm_Sim (l : Launch) (D : va_G) (K : pm_K4) (base bb : Nat) (sc : pm_S) (n : Nat) : Prop := ∀ (d mi pc : Nat) (ls st : List Value) (w : pm_W) (kc ks : Nat) (rv : Option Value) (w2 : pm_W) (kc2 ks2 : Nat), pm_run sc n d mi pc ls st w kc ks = some (rv, w2, kc2, ks2) →
  ∀ (p : Program) (e : Env) (R : Room) (s : State) (m : MethodId) (args : Array Value) (below : List Frame) (meth : Method) (c : Code) (H : Heap) (locs : List Loc) (Q : State → Prop) (M : pm_M) (ad : Nat → Nat) (rls : Array Slot), pm_mt[mi]? = some M → pm_X p s m args meth c D K base bb sc M → pm_P D K base bb ad w s H locs → pm_L ad bb rls ls → ls.length = M.2.2.1 → d ≤ R.frames ∧ 64 * d ≤ R.locals → kc2 ≤ R.cells ∧ ks2 ≤ R.slots →
  (∀ (ad' : Nat → Nat) (H' : Heap) (locs' : List Loc) (rls' : Array Slot) (pc' : Nat), (∀ i, i < w.length → ad' i = ad i) → (kc2 = kc → ad' = ad) → pm_P D K base bb ad' w2 s H' locs' → pm_ret M rv pc' → W p l e R s m args below meth c H' locs' kc2 ks2 Q (F0 m pc' rls' rv.toList)) →
  W p l e R s m args below meth c H locs kc ks Q (F0 m pc rls (st.map (pm_tr ad bb)))
set_option maxHeartbeats 4000000 in
/-- a method's contract out of its run -/
theorem pm_met {l : Launch} {D : va_G} {K : pm_K4} {base bb : Nat} {sc : pm_S} {n : Nat} (hbb : bb < base) (S : pm_Sim l D K base bb sc n) {d mj mL : Nat} {as : List Value} {w : pm_W} {rv : Option Value} {w2 : pm_W} {mc ms : Nat} {M : pm_M} {q : Nat × Nat × Nat × Nat × Nat} (hr : pm_run sc n d mj 0 (pm_ent as mL) [] w 0 0 = some (rv, w2, mc, ms)) (hM : pm_mt[mj]? = some M) (hq : pm_okm M q = true) (hmL : M.2.2.1 = mL) (hl : Nat.blt mL (pm_arg as).length = false) (ad : Nat → Nat) :
    Met l M.1 (Cond.code M.1 M.2.1 M.2.2.1 M.2.2.2.1 :: pm_ws) { frames := d, cells := mc, slots := ms, locals := 64 * d } (va_Pc (as.map (pm_tr ad bb)) (pm_B D K base bb sc ad w)) (pm_Q D K base bb ad w w2 mc rv) mc ms (fun q => base ≤ q) := by
  obtain ⟨i1, i2, i3, -⟩ := pm_okm_use hq
  refine Met.ofW (cc := M.2.1) (maxL := M.2.2.1) (ret := M.2.2.2.1) i3 rfl ?_
  intro p e s m args below meth c s₁ B hml hv
  obtain ⟨rfl, hv⟩ := hv
  obtain ⟨b1, b2, b3, b4, b5, b6⟩ := hv
  have hts := atoms_spec (ws := Cond.code M.1 M.2.1 M.2.2.1 M.2.2.2.1 :: pm_ws) B.pre
  have hown : s.vm.findClass (pm_nm M.2.2.2.2.1) = some m.cls := by rw [← i2]; exact findClass_of_methodNamed B.named
  have hnm : M.1.name = "<init>" → meth.name = "<init>" := fun h => (name_of_methodNamed B.named B.method).1.trans h
  have hlocks := B.notSynchronized
  have hel : (pm_ent as mL).length = mL := pm_ent_len hl
  obtain ⟨a1, a2⟩ := pm_arg_sl ad bb as
  have hle : (lg_sl (as.map (pm_tr ad bb))).length ≤ M.2.2.1 := by
    rw [a1, hmL, ← hel]
    simp [pm_ent]
  have hl0 := lv_entry (as.map (pm_tr ad bb)) hle
  rw [lg_entry_eq]
  have hL : pm_L ad bb ((lg_sl (as.map (pm_tr ad bb)) ++ List.replicate (M.2.2.1 - (lg_sl (as.map (pm_tr ad bb))).length) Slot.unset).toArray) (pm_ent as mL) := by
    refine ⟨hl0.1.trans (hmL.trans hel.symm), hl0.2.1, fun i v h hn => ?_⟩
    unfold pm_ent at h
    rw [List.getElem?_append] at h
    split at h
    · rename_i hi
      have h3 := a2 i v h hn
      simp only [List.getElem?_toArray]
      rw [List.getElem?_append_left (by rw [a1]; exact hi)]
      exact h3
    · rw [List.getElem?_replicate] at h
      split at h
      · cases h
        exact absurd rfl hn
      · cases h
  refine S d mj 0 (pm_ent as mL) [] w 0 0 rv w2 mc ms hr p e _ s m _ below meth c s.heap [] _ M ad _ hM ⟨B.exec, B.bytes, hml, hown, fun x hx => hts x (List.mem_cons_of_mem _ hx), b2, b3, hbb, b1, b4, hnm⟩ ⟨b5, b6, va_S.rf⟩ hL (hel.trans hmL.symm) ⟨Nat.le_refl _, Nat.le_refl _⟩ ⟨Nat.le_refl _, Nat.le_refl _⟩ ?_
  intro ad' H' locs' rls' pc' g1 g2 g3 g4
  unfold pm_ret at g4
  split at g4
  · rename_i x
    obtain ⟨h1, ty, h2, h3⟩ := g4
    have hr := B.returns
    exact W.zret B.exec B.bytes (hr.trans h2) h3 (fun t ht hW => ⟨⟨x, ad', rfl, rfl, g1, g2, by rw [ht]; exact g3.1, g3.2.1⟩, g3.2.2.F ht⟩) g3.2.2.2.2 h1 hlocks
  · have hr := B.returns
    exact W.vret B.exec B.bytes (hr.trans g4.2) (fun t ht hW => ⟨⟨ad', rfl, trivial, g1, g2, by rw [ht]; exact g3.1, g3.2.1⟩, g3.2.2.F ht⟩) g3.2.2.2.2 g4.1 hlocks
  · exact absurd g4 id

