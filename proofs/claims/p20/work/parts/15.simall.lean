theorem pm_ca_lt : pm_ca.all (fun r => Nat.blt r.2.2.2.1 186 || Nat.blt 900 r.2.2.2.1) = true := by decide +kernel
theorem pm_run_rv (sc : pm_S) (n : Nat) : ∀ (d mi pc : Nat) (ls st : List Value) (w : pm_W) (kc ks : Nat) (rv : Option Value) (w2 : pm_W) (kc2 ks2 : Nat), pm_run sc n d mi pc ls st w kc ks = some (rv, w2, kc2, ks2) → rv = none ∨ ∃ x, rv = some (.int x) := by
  induction n with
  | zero => intro d mi pc ls st w kc ks rv w2 kc2 ks2 h; cases h
  | succ n ih =>
    intro d mi pc ls st w kc ks rv w2 kc2 ks2 h
    rw [pm_run_succ] at h
    obtain ⟨e, -, h1 | h1 | h1⟩ := pm_step_inv h
    · obtain ⟨pc', ls', st', w', c, s, hx, h2⟩ := h1
      exact ih _ _ _ _ _ _ _ _ _ _ _ _ h2
    · obtain ⟨rv', hx, h2⟩ := h1
      cases h2
      rcases pm_x_kind hx with ⟨t, ht⟩ | ⟨x, -, -, -, hz⟩ | ⟨-, -, hz⟩ | ⟨i, -, hz⟩ | ⟨i, -, -, -, -, hz⟩ | ⟨i, -, -, hz⟩
      · cases ht
      · cases hz; exact Or.inr ⟨x, rfl⟩
      · cases hz; exact Or.inl rfl
      · obtain ⟨q, r, vs, fs, -, -, -, -, hz⟩ := pm_callV_inv hz
        cases hz
      · obtain ⟨r, vs, -, -, -, hz⟩ := pm_callS_inv hz
        cases hz
      · obtain ⟨q, r, vs, -, -, -, hz⟩ := pm_callI_inv hz
        cases hz
    · obtain ⟨mj, as, r, mL, d', rv', w', c, s, -, -, -, h2, -, h3⟩ := h1
      exact ih _ _ _ _ _ _ _ _ _ _ _ _ h3
theorem pm_okc_v {o i a b c d p : Nat} (h : pm_okc (o, i, 0, a, b, c, d, p) = true) : a ≠ 998 ∧ a ≠ 999 ∧ a ≠ 997 ∧ a ≠ 996 := by
  refine ⟨fun e => ?_, fun e => ?_, fun e => ?_, fun e => ?_⟩ <;> (subst e; simp only [pm_okc, Nat.reduceBEq, cond_true, cond_false, Bool.false_and] at h; cases h)
theorem pm_okc_s {o i k a b c d p : Nat} (hk : k = 1 ∨ k = 3) (h : pm_okc (o, i, k, a, b, c, d, p) = true) : a ≠ 998 := by
  intro e
  rcases hk with rfl | rfl <;> (subst e; simp only [pm_okc, Nat.reduceBEq, cond_true, cond_false, Bool.false_and] at h; cases h)
theorem pm_okc_i {o i k a b c d p : Nat} (hk : k = 2 ∨ k = 4) (h : pm_okc (o, i, k, a, b, c, d, p) = true) : a ≠ 999 ∧ a ≠ 997 ∧ a ≠ 996 := by
  refine ⟨fun e => ?_, fun e => ?_, fun e => ?_⟩ <;> (rcases hk with rfl | rfl <;> (subst e; simp only [pm_okc, Nat.reduceBEq, cond_true, cond_false, Bool.false_and] at h; cases h))
theorem pm_ca_a {r : Nat × Nat × Nat × Nat × Nat × Nat × Nat × Nat} (hr : r ∈ pm_ca) (h8 : r.2.2.2.1 ≠ 998) (h9 : r.2.2.2.1 ≠ 999) (h7 : r.2.2.2.1 ≠ 997) (h6 : r.2.2.2.1 ≠ 996) {M : pm_M} (hM : pm_mt[r.2.2.2.1]? = some M) : r.2.2.2.1 < 186 := by
  have h := List.all_eq_true.mp pm_ca_lt r hr
  rw [Bool.or_eq_true] at h
  rcases h with h | h
  · exact pm_blt h
  · have h1 := pm_blt h
    have h2 : pm_mt.length ≤ 500 := by decide +kernel
    have h3 := (List.getElem?_eq_some_iff.mp hM).1
    omega
section PmSim
variable {p : Program} {l : Launch} {e : Env} {R : Room} {s : State} {m : MethodId} {args : Array Value} {below : List Frame} {meth : Method} {c : Code} {H : Heap} {locs : List Loc} {kc ks : Nat} {Q : State → Prop}
variable {D : va_G} {K : pm_K4} {base bb : Nat} {sc : pm_S} {M : pm_M} {ad : Nat → Nat} {w w1 : pm_W} {ls st r : List Value} {rls : Array Slot} {pc c1 s1 : Nat}
theorem pm_after {st0 : List Value} {rv1 : Option Value} {av : Array Value} (run : va_Run p l e R s m args below meth c H locs kc ks c1 s1 (F0 m pc rls st0) (r.map (pm_tr ad bb)) (pm_Q D K base bb ad w w1 c1 rv1 av) (fun q => base ≤ q)) (hrv : rv1 = none ∨ ∃ x, rv1 = some (.int x)) (P : pm_P D K base bb ad w s H locs) (L : pm_L ad bb rls ls) (h3 : c1 = 0 ∨ (pm_okl w.length ls = true ∧ pm_okl w.length r = true))
    (k : ∀ (ad' : Nat → Nat) (H1 : Heap) (locs1 : List Loc), (∀ i, i < w.length → ad' i = ad i) → (c1 = 0 → ad' = ad) → pm_P D K base bb ad' w1 s H1 locs1 → pm_L ad' bb rls ls → W p l e R s m args below meth c H1 locs1 (kc + c1) (ks + s1) Q (F0 m (pc + 3) rls ((pm_rv rv1 r).map (pm_tr ad' bb)))) : W p l e R s m args below meth c H locs kc ks Q (F0 m pc rls st0) := by
  have hL : ∀ ad' : Nat → Nat, (∀ i, i < w.length → ad' i = ad i) → (c1 = 0 → ad' = ad) → pm_L ad' bb rls ls ∧ r.map (pm_tr ad' bb) = r.map (pm_tr ad bb) := fun ad' e1 e2 => by
    rcases h3 with h3 | h3
    · rw [e2 h3]; exact ⟨L, rfl⟩
    · exact ⟨L.ad h3.1 e1, pm_map_ad h3.2 e1⟩
  rcases hrv with rfl | ⟨x, rfl⟩
  · refine va_callv (a := av) (A1 := fun q => base ≤ q) (A0 := fun q => base ≤ q) (post := fun (_ : Nat → Nat) => True) (B := pm_E2 D K base bb ad w w1 c1) run P.2.2 (fun _ _ h => h) (fun _ h => h) (fun u t H1 locs1 ht hvm hw hB hz1 hk1 hS => ?_)
    obtain ⟨f1, f2, f3, f4⟩ := hB
    rw [ht] at f3
    have h5 := k u H1 locs1 f1 f2 ⟨f3, f4, hS⟩ (hL u f1 f2).1
    rw [show (pm_rv none r).map (pm_tr u bb) = r.map (pm_tr u bb) from rfl, (hL u f1 f2).2] at h5
    exact h5
  · refine va_calli (a := av) (A1 := fun q => base ≤ q) (A0 := fun q => base ≤ q) (post := fun r (_ : Nat → Nat) => r = x) (B := pm_E2 D K base bb ad w w1 c1) run P.2.2 (fun _ _ h => h) (fun _ h => h) (fun r1 u t H1 locs1 ht hvm hw hB hz1 hk1 hS => ?_)
    obtain ⟨f1, f2, f3, f4⟩ := hB
    rw [ht] at f3
    have hw : r1 = x := hw
    subst hw
    have h5 := k u H1 locs1 f1 f2 ⟨f3, f4, hS⟩ (hL u f1 f2).1
    rw [show (pm_rv (some (.int r1)) r).map (pm_tr u bb) = .int r1 :: r.map (pm_tr u bb) from rfl, (hL u f1 f2).2] at h5
    exact h5
/-- what a callee finds -/
theorem pm_find (X : pm_X p s m args meth c D K base bb sc M) (P : pm_P D K base bb ad w s H locs) (U : State) (hU : U.heap = H) (hW : s.WarmedH U.vm) : pm_B D K base bb sc ad w U := by
  obtain ⟨hx0, hb, hml, hown, hts, hK, hX, hbb, hbs, hT, hnm⟩ := X
  have hq : H[bb]? = s.heap[bb]? := P.2.2.2.1 bb (Nat.lt_of_lt_of_le hbb hbs) (Nat.not_le.mpr hbb)
  refine ⟨by rw [hU]; exact Nat.le_trans hbs P.2.2.1, va_K.moved hW.alike hK, ?_, hT.warm hW, by rw [hU]; exact P.1, P.2.1⟩
  rw [hU]
  exact fun L xs h => ((hX L xs h).kept hq).moved hW.alike
theorem pm_sti (q : Nat) (vs r : List Value) : (vs.reverse ++ .ref q :: r).map (pm_tr ad bb) = (vs.map (pm_tr ad bb)).reverse ++ .ref (ad q) :: r.map (pm_tr ad bb) := by
  rw [List.map_append, List.map_reverse, List.map_cons]
  rfl
theorem pm_sts (vs r : List Value) : (vs.reverse ++ r).map (pm_tr ad bb) = (vs.map (pm_tr ad bb)).reverse ++ r.map (pm_tr ad bb) := by
  rw [List.map_append, List.map_reverse]
end PmSim
set_option maxHeartbeats 4000000 in
/-- A RUN OF THE PURE MACHINE IS ONE OF THE REAL ONE -/
theorem pm_sim {l : Launch} {D : va_G} {K : pm_K4} {base bb : Nat} {sc : pm_S} (hbb : bb < base) (n : Nat) : pm_Sim l D K base bb sc n := by
  induction n with
  | zero => intro d mi pc ls st w kc ks rv w2 kc2 ks2 h; cases h
  | succ n ih =>
    intro d mi pc ls st w kc ks rv w2 kc2 ks2 h p e R s m args below meth c H locs Q M ad rls hM X P L hL hd hR kk
    rw [pm_run_succ] at h
    obtain ⟨en, hcode, h1⟩ := pm_step_inv h
    obtain ⟨M', hM', hc⟩ := pm_code_ok hcode
    cases hM.symm.trans hM'
    rcases h1 with h1 | h1 | h1
    · obtain ⟨pc', ls', st', w', c2, s2, hx, h2⟩ := h1
      have g := pm_run_mono sc n _ _ _ _ _ _ _ _ _ _ _ _ h2
      have hlen := pm_x_len hx
      refine pm_snd X hc P L hL hd ⟨by omega, by omega⟩ hx (fun ad' H' locs' rls' e1 e2 P' L' => ?_)
      exact ih d mi pc' ls' st' w' (kc + c2) (ks + s2) rv w2 kc2 ks2 h2 p e R s m args below meth c H' locs' Q M ad' rls' hM X P' L' (hlen.1.trans hL) hd hR (fun ad2 H2 locs2 rls2 pc2 f1 f2 f3 f4 => kk ad2 H2 locs2 rls2 pc2 (fun i hi => (f1 i (Nat.lt_of_lt_of_le hi hlen.2)).trans (e1 i hi)) (fun hk => (f2 (by omega)).trans (e2 (by omega))) f3 f4)
    · obtain ⟨rv', hx, h2⟩ := h1
      cases h2
      obtain ⟨g1, g2⟩ := pm_chk_1 hc
      obtain ⟨ins, nx, a, b, cx, dx⟩ := en
      rcases pm_x_kind hx with ⟨t, ht⟩ | ⟨x, hi, hst, ha, hz⟩ | ⟨hi, hst, hz⟩ | ⟨i, -, hz⟩ | ⟨i, -, -, -, -, hz⟩ | ⟨i, -, -, hz⟩
      · cases ht
      · cases hz
        have hi : ins = .ireturn := hi
        subst hi
        subst hst
        obtain ⟨-, hdec⟩ := pm_dec1 (k := 1) g1 g2
        have h3 : M.2.2.2.1 = some (if a = 0 then .int else .boolean) := by
          unfold pm_chk at hc
          simp only [Bool.and_eq_true, decide_eq_true_eq] at hc
          exact hc.2
        refine kk ad H locs rls pc (fun _ _ => rfl) (fun _ => rfl) P ⟨hdec, _, h3, ?_⟩
        have ha : a = 0 ∨ x = 0 ∨ x = 1 := ha
        rcases ha with rfl | rfl | rfl
        · rfl
        · by_cases h0 : a = 0
          · rw [if_pos h0]; rfl
          · rw [if_neg h0]; rfl
        · by_cases h0 : a = 0
          · rw [if_pos h0]; rfl
          · rw [if_neg h0]; rfl
      · cases hz
        have hi : ins = .return_ := hi
        subst hi
        subst hst
        obtain ⟨-, hdec⟩ := pm_dec1 (k := 1) g1 g2
        have h3 : M.2.2.2.1 = none := by
          unfold pm_chk at hc
          simp only [Bool.and_eq_true, decide_eq_true_eq] at hc
          exact hc.2
        exact kk ad H locs rls pc (fun _ _ => rfl) (fun _ => rfl) P ⟨hdec, h3⟩
      · obtain ⟨q, r, vs, fs, -, -, -, -, hz⟩ := pm_callV_inv hz
        cases hz
      · obtain ⟨r, vs, -, -, -, hz⟩ := pm_callS_inv hz
        cases hz
      · obtain ⟨q, r, vs, -, -, -, hz⟩ := pm_callI_inv hz
        cases hz
    · obtain ⟨mj, as, r, mL, d', rv1, w1, c1, s1, rfl, hx, hl, h2, h3, h4⟩ := h1
      have gm := pm_run_mono sc n _ _ _ _ _ _ _ _ _ _ _ _ h4
      have gm2 := pm_run_mono sc n _ _ _ _ _ _ _ _ _ _ _ _ h2
      have hrv := pm_run_rv sc n _ _ _ _ _ _ _ _ _ _ _ _ h2
      obtain ⟨g1, g2⟩ := pm_chk_1 hc
      obtain ⟨hx0, hb, hml, hown, hts, hK, hX, -, hbs, hT, hnm⟩ := id X
      have hsz : rls.size = M.2.2.1 := L.1.trans hL
      have kk2 : ∀ (ad' : Nat → Nat) (H1 : Heap) (locs1 : List Loc), (∀ i, i < w.length → ad' i = ad i) → (c1 = 0 → ad' = ad) → pm_P D K base bb ad' w1 s H1 locs1 → pm_L ad' bb rls ls → W p l e R s m args below meth c H1 locs1 (kc + c1) (ks + s1) Q (F0 m en.2.1 rls ((pm_rv rv1 r).map (pm_tr ad' bb))) := fun ad' H1 locs1 e1 e2 P' L' =>
        ih (d' + 1) mi en.2.1 ls (pm_rv rv1 r) w1 (kc + c1) (ks + s1) rv w2 kc2 ks2 h4 p e R s m args below meth c H1 locs1 Q M ad' rls hM X P' L' hL hd hR (fun ad2 H2 locs2 rls2 pc2 f1 f2 f3 f4 => kk ad2 H2 locs2 rls2 pc2 (fun i hi => (f1 i (by omega)).trans (e1 i hi)) (fun hk => (f2 (by omega)).trans (e2 (by omega))) f3 f4)
      have hroom : ∀ mL', mL' ≤ 20 → d' + 1 ≤ R.frames ∧ 8 + (mL' + 11) + 64 * d' ≤ R.locals := fun mL' hm => ⟨hd.1, by have := hd.2; omega⟩
      have hcells : kc + c1 ≤ R.cells ∧ ks + s1 ≤ R.slots := ⟨by omega, by omega⟩
      obtain ⟨ins, nx, a, b, cx, dx⟩ := en
      rcases pm_x_kind hx with ⟨t, ht⟩ | ⟨x, -, -, -, hz⟩ | ⟨-, -, hz⟩ | ⟨i, hi, hz⟩ | ⟨i, hi, n9, n7, n6, hz⟩ | ⟨i, hi, n8, hz⟩
      · cases ht
      · cases hz
      · cases hz
      · have hi : ins = .invokevirtual i := hi
        subst hi
        obtain ⟨rfl, hdec⟩ := pm_dec1 (k := 3) g1 g2
        have h5 : pm_ca.any (fun r => r.1 == M.2.2.2.2.1 && r.2.1 == i && r.2.2.1 == 0 && r.2.2.2.1 == a && r.2.2.2.2.1 == b && r.2.2.2.2.2.1 == cx && r.2.2.2.2.2.2.1 == dx) = true := by
          unfold pm_chk at hc
          simp only [Bool.and_eq_true] at hc
          exact hc.2
        obtain ⟨⟨o', i', k', a', b', c', d2, p'⟩, hr, h5⟩ := List.any_eq_true.mp h5
        simp only [Bool.and_eq_true, beq_iff_eq] at h5
        obtain ⟨⟨⟨⟨⟨⟨e1, e2⟩, e3⟩, e4⟩, e5⟩, e6⟩, e7⟩ := h5
        have h6 := List.all_eq_true.mp pm_ca_ok _ hr
        rw [e3] at h6
        obtain ⟨m8, m9, m7, m6⟩ := pm_okc_v h6
        obtain ⟨M1, q1, hM1, hq1, hd1, hpar, hV, -⟩ := pm_okc_use h6 m8 m9 m7 m6
        have hlt := pm_ca_a hr m8 m9 m7 m6 hM1
        obtain ⟨hk0, hlink, hcl⟩ := hV rfl
        obtain ⟨hcw, hokm⟩ := pm_mt_use hM1 hq1 hlt
        obtain ⟨i1, i2, i3, i4, i5, -, -, i6⟩ := pm_okm_use hokm
        obtain ⟨j1, j2⟩ := i6 hk0
        obtain ⟨q, r', vs, fs, hst, hvl, hw, hcat, hz⟩ := pm_callV_inv hz
        cases hz
        dsimp only at e4 e5 e6 e7 hM1 hvl hw
        rw [e4] at hM1
        rw [e1, e2] at hlink
        rw [e6] at hcl
        have MET := pm_met hbb ih h2 hM1 hokm (hd1.trans e7) hl ad
        rw [hst, pm_sti]
        have hvv : ∃ qq, vwCl[cx]? = some qq ∧ qq.1 = M1.1.cls := by
          cases hv : vwCl[cx]? with
          | none => rw [hv] at hcl; cases hcl
          | some qq => rw [hv] at hcl; exact ⟨qq, rfl, Option.some.inj hcl⟩
        obtain ⟨qq, hv, hqq⟩ := hvv
        have hrec := va_recv hK P.1 hv (pm_rw_at hw)
        rw [hqq] at hrec
        exact pm_after (va_runV (As := vs.map (pm_tr ad bb)) (rest := r.map (pm_tr ad bb)) ⟨hx0, hb, hml, hown, hts⟩ MET (cwV b hts (pm_goodV hlink j1 j2 i1 (pm_goodIn hcw)) rfl rfl rfl ⟨rfl, i4.1, i4.2, by rw [← e5]; exact hpar⟩ (hroom _ i5)) ⟨pm_B.blind, hrec, fun U hU hW => ⟨rfl, pm_find X P U hU hW⟩⟩ rfl (by rw [List.length_map]; exact hvl) hsz rfl (by show 2 * 0 + _ ≤ 8; rw [pm_cat_tr]; omega) hdec hcells) hrv P L h3 kk2
      · have hi : ins = .invokestatic i := hi
        subst hi
        obtain ⟨rfl, hdec⟩ := pm_dec1 (k := 3) g1 g2
        have h5 : pm_ca.any (fun r => r.1 == M.2.2.2.2.1 && r.2.1 == i && (r.2.2.1 == 1 || r.2.2.1 == 3) && r.2.2.2.1 == a && r.2.2.2.2.1 == b && r.2.2.2.2.2.1 == cx && r.2.2.2.2.2.2.1 == dx) = true := by
          unfold pm_chk at hc
          simp only [Bool.and_eq_true] at hc
          exact hc.2
        obtain ⟨⟨o', i', k', a', b', c', d2, p'⟩, hr, h5⟩ := List.any_eq_true.mp h5
        simp only [Bool.and_eq_true, Bool.or_eq_true, beq_iff_eq] at h5
        obtain ⟨⟨⟨⟨⟨⟨e1, e2⟩, e3⟩, e4⟩, e5⟩, e6⟩, e7⟩ := h5
        have h6 := List.all_eq_true.mp pm_ca_ok _ hr
        have m8 := pm_okc_s e3 h6
        have n9 : a' ≠ 999 := by rw [e4]; exact n9
        have n7 : a' ≠ 997 := by rw [e4]; exact n7
        have n6 : a' ≠ 996 := by rw [e4]; exact n6
        obtain ⟨M1, q1, hM1, hq1, hd1, hpar, -, hS1, hS3, -⟩ := pm_okc_use h6 m8 n9 n7 n6
        have hlt := pm_ca_a hr m8 n9 n7 n6 hM1
        obtain ⟨hcw, hokm⟩ := pm_mt_use hM1 hq1 hlt
        obtain ⟨i1, i2, i3, i4, i5, i6, -⟩ := pm_okm_use hokm
        obtain ⟨r', vs, hst, hvl, hcat, hz⟩ := pm_callS_inv hz
        cases hz
        dsimp only at e4 e5 e6 e7 hM1 hvl
        rw [e4] at hM1
        have MET := pm_met hbb ih h2 hM1 hokm (hd1.trans e7) hl ad
        rw [hst, pm_sts]
        rcases e3 with e3 | e3
        · obtain ⟨hk1, hlink⟩ := hS1 e3
          rw [e1, e2] at hlink
          exact pm_after (va_runS (As := as.map (pm_tr ad bb)) (rest := r.map (pm_tr ad bb)) ⟨hx0, hb, hml, hown, hts⟩ MET (va_cwS b hts (pm_goodS hlink (i6 hk1) i1 (pm_goodIn hcw)) rfl rfl rfl ⟨i4.1, i4.2, by rw [← e5]; exact hpar⟩ (hroom _ i5)) ⟨pm_B.blind, fun U hU hW => ⟨rfl, pm_find X P U hU hW⟩⟩ rfl (by rw [List.length_map]; exact hvl) hsz rfl (by show 2 * 0 + _ ≤ 8; rw [pm_cat_tr]; omega) hdec hcells) hrv P L h3 kk2
        · obtain ⟨hk1, hlink⟩ := hS3 e3
          rw [e1, e2] at hlink
          exact pm_after (va_runSN (As := as.map (pm_tr ad bb)) (rest := r.map (pm_tr ad bb)) ⟨hx0, hb, hml, hown, hts⟩ MET ⟨va_cnB b hts (pm_goodIn hcw) rfl rfl rfl (hT.1 _ _ _ _ hlink) (hts _ i1) ⟨i4.1, i4.2, by rw [← e5]; exact hpar⟩ (hroom _ i5), hts _ (i6 hk1), trivial⟩ ⟨pm_B.blind, fun U hU hW => ⟨rfl, pm_find X P U hU hW⟩⟩ rfl (by rw [List.length_map]; exact hvl) hsz rfl (by show 2 * 0 + _ ≤ 8; rw [pm_cat_tr]; omega) hdec hcells) hrv P L h3 kk2
      · have hi : ins = .invokespecial i := hi
        subst hi
        obtain ⟨rfl, hdec⟩ := pm_dec1 (k := 3) g1 g2
        have h5 : pm_ca.any (fun r => r.1 == M.2.2.2.2.1 && r.2.1 == i && (r.2.2.1 == 2 || r.2.2.1 == 4) && r.2.2.2.1 == a && r.2.2.2.2.1 == b && r.2.2.2.2.2.1 == cx && r.2.2.2.2.2.2.1 == dx) = true := by
          unfold pm_chk at hc
          simp only [Bool.and_eq_true] at hc
          exact hc.2
        obtain ⟨⟨o', i', k', a', b', c', d2, p'⟩, hr, h5⟩ := List.any_eq_true.mp h5
        simp only [Bool.and_eq_true, Bool.or_eq_true, beq_iff_eq] at h5
        obtain ⟨⟨⟨⟨⟨⟨e1, e2⟩, e3⟩, e4⟩, e5⟩, e6⟩, e7⟩ := h5
        have h6 := List.all_eq_true.mp pm_ca_ok _ hr
        have n8 : a' ≠ 998 := by rw [e4]; exact n8
        obtain ⟨n9, n7, n6⟩ := pm_okc_i e3 h6
        obtain ⟨M1, q1, hM1, hq1, hd1, hpar, -, -, -, hI2, hI4⟩ := pm_okc_use h6 n8 n9 n7 n6
        have hlt := pm_ca_a hr n8 n9 n7 n6 hM1
        obtain ⟨hcw, hokm⟩ := pm_mt_use hM1 hq1 hlt
        obtain ⟨i1, i2, i3, i4, i5, -, i6, -⟩ := pm_okm_use hokm
        obtain ⟨q, r', vs, hst, hvl, hcat, hz⟩ := pm_callI_inv hz
        cases hz
        dsimp only at e4 e5 e6 e7 hM1 hvl
        rw [e4] at hM1
        have MET := pm_met hbb ih h2 hM1 hokm (hd1.trans e7) hl ad
        rw [hst, pm_sti]
        rcases e3 with e3 | e3
        · obtain ⟨hk1, hlink⟩ := hI2 e3
          obtain ⟨j1, j2, j3⟩ := i6 hk1
          rw [e1, e2] at hlink
          rw [j3] at MET hcw
          exact pm_after (va_runI (As := vs.map (pm_tr ad bb)) (rest := r.map (pm_tr ad bb)) ⟨hx0, hb, hml, hown, hts⟩ MET (cwI b hts (pm_goodIn hcw) rfl rfl rfl (hts _ i1) (hts _ hlink) (hts _ j1) j2 ⟨i4.1, i4.2, by rw [← e5]; exact hpar⟩ (hroom _ i5)) ⟨pm_B.blind, fun U hU hW => ⟨rfl, pm_find X P U hU hW⟩⟩ rfl (by rw [List.length_map]; exact hvl) hsz rfl (by show 2 * 0 + _ ≤ 8; rw [pm_cat_tr]; omega) hdec hcells) hrv P L h3 kk2
        · obtain ⟨hk1, hlink⟩ := hI4 e3
          obtain ⟨j1, j2, j3⟩ := i6 hk1
          rw [e1, e2] at hlink
          rw [j3] at MET hcw
          exact pm_after (va_runIN (As := vs.map (pm_tr ad bb)) (rest := r.map (pm_tr ad bb)) ⟨hx0, hb, hml, hown, hts⟩ MET ⟨va_cnB b hts (pm_goodIn hcw) rfl rfl rfl (hT.1 _ _ _ _ hlink) (hts _ i1) ⟨i4.1, i4.2, by rw [← e5]; exact hpar⟩ (hroom _ i5), j2, hts _ j1⟩ ⟨pm_B.blind, fun U hU hW => ⟨rfl, pm_find X P U hU hW⟩⟩ rfl (by rw [List.length_map]; exact hvl) hsz rfl (by show 2 * 0 + _ ≤ 8; rw [pm_cat_tr]; omega) hdec hcells) hrv P L h3 kk2

