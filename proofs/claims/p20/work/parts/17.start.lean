theorem pm_inst {k : Nat} {q : vw_C} (h : vwCl[k]? = some q) : Cond.instantiable q.1 q.2.2 ∈ pm_ws := by
  match k, h with
  | 0, h => cases h; exact pm_mem (i := 319) (by decide +kernel) (by decide +kernel)
  | 1, h => cases h; exact pm_mem (i := 339) (by decide +kernel) (by decide +kernel)
  | 2, h => cases h; exact pm_mem (i := 267) (by decide +kernel) (by decide +kernel)
  | 3, h => cases h; exact pm_mem (i := 120) (by decide +kernel) (by decide +kernel)
  | 4, h => cases h; exact pm_mem (i := 191) (by decide +kernel) (by decide +kernel)
  | 5, h => cases h; exact pm_mem (i := 174) (by decide +kernel) (by decide +kernel)
  | 6, h => cases h; exact pm_mem (i := 149) (by decide +kernel) (by decide +kernel)
  | 7, h => cases h; exact pm_mem (i := 299) (by decide +kernel) (by decide +kernel)
  | 8, h => cases h; exact pm_mem (i := 103) (by decide +kernel) (by decide +kernel)
  | 9, h => cases h; exact pm_mem (i := 220) (by decide +kernel) (by decide +kernel)
  | 10, h => cases h; exact pm_mem (i := 78) (by decide +kernel) (by decide +kernel)
  | 11, h => cases h; exact pm_mem (i := 70) (by decide +kernel) (by decide +kernel)
  | 12, h => cases h; exact pm_mem (i := 868) (by decide +kernel) (by decide +kernel)
  | n + 13, h => exact absurd h (by simp [vwCl])
/-- what is left: a run of the pure machine over the law's own code, that ends with 1, within the room -/
def pm_Law (sc : pm_S) : Prop := ∃ (n : Nat) (w2 : pm_W) (kc2 ks2 : Nat), pm_run sc n 40 186 0 (pm_ent [.retAddr 0] 4) [] [] 0 0 = some (some (.int 1), w2, kc2, ks2) ∧ kc2 ≤ 600000 ∧ ks2 ≤ 7302250
set_option maxHeartbeats 4000000 in
set_option maxRecDepth 100000 in
theorem pm_start {p : Program} {e : Env} {s : State} {m : MethodId} {below : List Frame} {meth : Method} {c : Code} (l : Launch) {b L : Nat} {xs : Nat → Int32} (C0 : lw_At p s m meth c b L xs) (hl : pm_Law (some (L, xs))) : W p l e room_1 s m #[Value.ref b] below meth c s.heap [] 0 0 (lw_Z below #[Value.ref b] s) (entryFrame m ([Value.ref b] : List Value).toArray 4) := by
  obtain ⟨hx, hb, hr, hml, hown, hts, hX, hbl, hlocks, hgv⟩ := id C0
  obtain ⟨n, w2, kc2, ks2, hrun, hkc, hks⟩ := hl
  have hD : ∀ k : Nat, ∃ y : ClassId × (Nat → Nat), ∀ q, vwCl[k]? = some q → u_Kn s q.1 q.2.1 q.2.2 y.1 y.2 := fun k => by
    cases hk : vwCl[k]? with
    | none => exact ⟨(0, fun _ => 0), fun q h => by cases h⟩
    | some q =>
      obtain ⟨C, T, N⟩ := q
      obtain ⟨cC, iS, h⟩ := u_known (C := C) (T := T) (N := N) (n := N) hts (fun w hw => pm_mem_tbl ((pm_cls hk).1 w hw)) (hts _ (pm_mem_tbl (pm_inst hk)))
      exact ⟨(cC, iS), fun q h2 => by cases h2; exact h⟩
  obtain ⟨D, hKD⟩ : ∃ D : va_G, ∀ (k : Nat) (q : vw_C), vwCl[k]? = some q → u_Kn s q.1 q.2.1 q.2.2 (D.1 k) (D.2 k) := ⟨(fun k => (Classical.choose (hD k)).1, fun k => (Classical.choose (hD k)).2), fun k q h => Classical.choose_spec (hD k) q h⟩
  have arr : ∀ ty : FieldType, (∀ C, ty ≠ .object C) → Cond.arrayClass ty ∈ pm_ws → ∃ cA, ArrOfT s cA ty ∧ va_RA s cA ty := fun ty hn hm => by
    obtain ⟨cA, kA, comp, h1, h2, h3⟩ := Cond.arrayClass_spec (hts _ (pm_mem_tbl hm))
    refine ⟨cA, fun n z => ⟨fun k h => (by cases h), kA, h2, comp, h3⟩, ?_⟩
    cases ty with
    | object C => exact absurd rfl (hn C)
    | _ => exact h1
  obtain ⟨cI, hI⟩ := arr .int (fun C h => by cases h) pm_w_arr.1
  obtain ⟨cZ, hZ⟩ := arr .boolean (fun C h => by cases h) pm_w_arr.2.1
  obtain ⟨cJ, hJ⟩ := arr .long (fun C h => by cases h) pm_w_arr.2.2.1
  obtain ⟨comp, cB, kB, f1, -, f3, f4, f5⟩ := Cond.arrayOver_spec (hts _ pm_w_arr.2.2.2)
  have hB : ArrOfT s cB (.object "DrawLooms$Beam") ∧ va_RA s cB (.object "DrawLooms$Beam") := ⟨fun n z => ⟨fun k h => (by cases h), kB, f3, comp, f4⟩, kB, comp, f3, f4, f1, f5⟩
  have hK : va_K D vwCl (pm_tys (cI, cZ, cJ, cB)) s := ⟨hKD, fun k q hq => by
    match k, hq with
    | 0, hq => cases hq; exact hI
    | 1, hq => cases hq; exact hZ
    | 2, hq => cases hq; exact hJ
    | 3, hq => cases hq; exact hB
    | k + 4, hq => simp [pm_tys] at hq⟩
  have hT : pm_T s := ⟨fun a i x h hm => va_Nw.of rfl (hts _ hm), va_AO.of (hts _ pm_w_arr.2.2.2)⟩
  have hX0 : pm_X p s m #[Value.ref b] meth c D (cI, cZ, cJ, cB) s.heap.size b (some (L, xs)) (yL_law, cL_law, 4, (some .boolean), 13, 1311) := ⟨hx, hb, hml, hown, fun w hw => hts w (pm_mem_tbl hw), hK, fun L0 xs0 h0 => by cases h0; exact hX, hbl, Nat.le_refl _, hT, fun h => absurd h (by decide +kernel)⟩
  rw [lg_entry_eq]
  obtain ⟨a1, a2⟩ := pm_arg_sl (fun _ => 0) b [.retAddr 0]
  have hl0 := lv_entry ([.ref b]) (n := 4) (Nat.le_of_ble_eq_true rfl)
  have hL : pm_L (fun _ => 0) b ((lg_sl ([Value.ref b]) ++ List.replicate (4 - (lg_sl ([Value.ref b])).length) Slot.unset).toArray) (pm_ent [.retAddr 0] 4) := by
    refine ⟨hl0.1, hl0.2.1, fun i v h hn => ?_⟩
    unfold pm_ent at h
    rw [List.getElem?_append] at h
    split at h
    · rename_i hi
      have h3 := a2 i v h hn
      simp only [List.getElem?_toArray]
      rw [List.getElem?_append_left (by exact hi)]
      exact h3
    · rw [List.getElem?_replicate] at h
      split at h
      · cases h
        exact absurd rfl hn
      · cases h
  have hP0 : va_P D vwCl (pm_rw (cI, cZ, cJ, cB) (fun _ => 0) b []) s.heap := fun k q h => by simp [pm_rw] at h
  have hD0 : va_D (fun q : Nat => s.heap.size ≤ q) (pm_rw (cI, cZ, cJ, cB) (fun _ => 0) b []) := ⟨fun i j p q h => by simp [pm_rw] at h, fun k q h => by simp [pm_rw] at h⟩
  refine pm_sim hbl n 40 186 0 (pm_ent [.retAddr 0] 4) [] [] 0 0 (some (.int 1)) w2 kc2 ks2 hrun p e room_1 s m _ below meth c s.heap [] _ (yL_law, cL_law, 4, (some .boolean), 13, 1311) (fun _ => 0) _ rfl hX0 ⟨hP0, hD0, va_S.rf⟩ hL rfl ⟨Nat.le_of_ble_eq_true rfl, Nat.le_of_ble_eq_true rfl⟩ ⟨hkc, hks⟩ ?_
  intro ad' H' locs' rls' pc' g1 g2 g3 g4
  refine va_forget (fun q hq => g3.2.2.2.2 q hq) ?_
  refine W.widen (k := 600000) (n := 7302250) hkc hks ?_
  exact lw_ret hx hb hr hlocks g4.1

