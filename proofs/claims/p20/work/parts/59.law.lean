section PmLw
variable {d mi pc nx a b c f L : Nat} {xs : Nat → Int32} {ls st : List Value} {w : pm_W} {Q : Option Value → pm_W → Prop}
theorem v_sld {i : Int32} {r n : Nat} (hc : pm_code mi pc = some (.iaload, nx, a, b, c, f)) (hn : i.toNatClampNeg = n ∧ ¬ i < 0) (hl : n < L) (k : pm_V (some (L, xs)) d mi nx ls (.int (xs n) :: st) w Q) : pm_V (some (L, xs)) d mi pc ls (.int i :: .retAddr r :: st) w Q := v_go hc (by
  show pm_sld (some (L, xs)) nx ls (.int i :: .retAddr r :: st) w = _
  unfold pm_sld
  dsimp only
  rw [decide_eq_false hn.2, hn.1, pm_blt_t hl]
  rfl) k
theorem v_slen {r : Nat} (hc : pm_code mi pc = some (.arraylength, nx, a, b, c, f)) (k : pm_V (some (L, xs)) d mi nx ls (.int (Int32.ofNat L) :: st) w Q) : pm_V (some (L, xs)) d mi pc ls (.retAddr r :: st) w Q := v_go hc (by
  show pm_len (some (L, xs)) nx ls (.retAddr r :: st) w = _
  unfold pm_len
  exact pm_gi_eq) k
end PmLw
theorem s_ix {p k : Nat} {c : Int32} (hp : p ≤ 100000) (hc : c.toInt = k) (hk : k ≤ 4) : (nI p + c).toNatClampNeg = p + k ∧ ¬ (nI p + c) < 0 := by
  have e := nI_toInt (n := p) (by omega)
  have e2 : (nI p + c).toInt = p + k := by rw [j_add (by omega) (by omega), e, hc]
  rw [i_cl, i_lt, e2, i_0]
  omega
theorem s_i0 {p : Nat} (hp : p ≤ 100000) : (nI p).toNatClampNeg = p ∧ ¬ (nI p) < 0 := by
  have e := nI_toInt (n := p) (by omega)
  rw [i_cl, i_lt, e, i_0]
  omega
theorem s_i5 {p : Nat} (hp : p ≤ 100000) : nI p + Int32.ofInt 5 = nI (p + 5) := by
  rw [i_eq, j_add (by rw [nI_toInt (by omega)]; show -2147483648 ≤ (p : Int) + 5; omega) (by rw [nI_toInt (by omega)]; show (p : Int) + 5 ≤ 2147483647; omega), nI_toInt (by omega), nI_toInt (by omega)]
  show (p : Int) + 5 = ((p + 5 : Nat) : Int)
  omega
theorem pm_law_of {L : Nat} {xs : Nat → Int32} (h : pm_V (some (L, xs)) 40 186 16 [.retAddr 0, .ref 0, .ref 59, .null] [] pm_w2 (fun rv _ => rv = some (.int 1))) : pm_Law (some (L, xs)) := by
  obtain ⟨n, rv, w2, hr, rfl⟩ := h
  refine ⟨n + 700, w2, 88, 3670, ?_, by decide, by decide⟩
  · rw [show n + 700 = (n + 699) + 1 from rfl, pm_run_succ]
    refine pm_step_go rfl rfl ?_
    rw [show n + 699 = (n + 698) + 1 from rfl, pm_run_succ]
    refine pm_step_go rfl rfl ?_
    rw [show n + 698 = (n + 697) + 1 from rfl, pm_run_succ]
    refine pm_step_call rfl rfl rfl (by rw [show n + 697 = 484 + (n + 213) by omega]; exact pm_run_more none (Or.inl rfl) 484 _ _ _ _ _ _ _ _ _ _ pm_init1) (Or.inr ⟨rfl, rfl⟩) ?_
    rw [show n + 697 = (n + 696) + 1 from rfl, pm_run_succ]
    refine pm_step_go rfl rfl ?_
    rw [show n + 696 = (n + 695) + 1 from rfl, pm_run_succ]
    refine pm_step_go rfl rfl ?_
    rw [show n + 695 = (n + 694) + 1 from rfl, pm_run_succ]
    refine pm_step_go rfl rfl ?_
    rw [show n + 694 = (n + 693) + 1 from rfl, pm_run_succ]
    refine pm_step_call rfl rfl rfl (by rw [show n + 693 = 170 + (n + 523) by omega]; exact pm_run_more none (Or.inl rfl) 170 _ _ _ _ _ _ _ _ _ _ pm_init2) (Or.inr ⟨rfl, rfl⟩) ?_
    rw [show n + 693 = (n + 692) + 1 from rfl, pm_run_succ]
    refine pm_step_go rfl rfl ?_
    exact pm_run_more _ (Or.inr rfl) n 692 _ _ _ _ _ _ _ _ _ (hr 88 3670)

