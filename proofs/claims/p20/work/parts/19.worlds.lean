noncomputable def pm_eqA (x y : pm_A) : Bool := match x, y with
  | .inl a, .inl b => decide (a = b)
  | .inr (.inl a), .inr (.inl b) => decide (a = b)
  | .inr (.inr a), .inr (.inr b) => decide (a = b)
  | _, _ => false
theorem pm_eqA_eq {x y : pm_A} (h : pm_eqA x y = true) : x = y := by
  unfold pm_eqA at h
  split at h
  · rw [of_decide_eq_true h]
  · rw [of_decide_eq_true h]
  · rw [of_decide_eq_true h]
  · cases h
noncomputable def pm_eqC (x y : pm_C) : Bool := match x, y with
  | .inl (t, a), .inl (u, b) => decide (t = u) && pm_eqA a b
  | .inr (t, a), .inr (u, b) => decide (t = u) && decide (a = b)
  | _, _ => false
theorem pm_eqC_eq {x y : pm_C} (h : pm_eqC x y = true) : x = y := by
  unfold pm_eqC at h
  split at h
  · rw [Bool.and_eq_true] at h
    rw [of_decide_eq_true h.1, pm_eqA_eq h.2]
  · rw [Bool.and_eq_true] at h
    rw [of_decide_eq_true h.1, of_decide_eq_true h.2]
  · cases h
noncomputable def pm_eqW (x y : pm_W) : Bool := match x, y with
  | [], [] => true
  | a :: as, b :: bs => pm_eqC a b && pm_eqW as bs
  | _, _ => false
theorem pm_eqW_eq {x y : pm_W} (h : pm_eqW x y = true) : x = y := by
  induction x generalizing y with
  | nil =>
    cases y with
    | nil => rfl
    | cons b bs => cases h
  | cons a as ih =>
    cases y with
    | nil => cases h
    | cons b bs =>
      have h : (pm_eqC a b && pm_eqW as bs) = true := h
      rw [Bool.and_eq_true] at h
      rw [pm_eqC_eq h.1, ih h.2]
noncomputable def pm_eqR (x : pm_R) (rv : Option Value) (w : pm_W) (kc ks : Nat) : Bool := match x with
  | some (rv', w', kc', ks') => decide (rv' = rv) && pm_eqW w' w && decide (kc' = kc) && decide (ks' = ks)
  | none => false
theorem pm_eqR_eq {x : pm_R} {rv : Option Value} {w : pm_W} {kc ks : Nat} (h : pm_eqR x rv w kc ks = true) : x = some (rv, w, kc, ks) := by
  unfold pm_eqR at h
  split at h
  · simp only [Bool.and_eq_true, decide_eq_true_eq] at h
    obtain ⟨⟨⟨h1, h2⟩, h3⟩, h4⟩ := h
    rw [h1, pm_eqW_eq h2, h3, h4]
  · cases h
noncomputable def pm_w1 : pm_W := [
  .inr (11, [.ref 1, .ref 3, .ref 5, .ref 10, .int 6, .ref 14, .int 0, .ref 16, .ref 20, .ref 27, .ref 32, .ref 37, .ref 41, .ref 45, .ref 58]),
  .inr (10, [.int 8, .int 8, .ref 2]),
  .inl (2, .inr (.inl (List.replicate 20 0))),
  .inr (8, [.int 0, .ref 4]),
  .inl (2, .inr (.inl (List.replicate 20 0))),
  .inr (3, [.int 0, .ref 6, .ref 8, .ref 9]),
  .inr (8, [.int 0, .ref 7]),
  .inl (2, .inr (.inl (List.replicate 20 0))),
  .inl (0, .inl (List.replicate 20 0)),
  .inl (0, .inl (List.replicate 20 0)),
  .inr (6, [.int 1, .int 0, .int 0, .ref 11, .ref 12, .ref 13]),
  .inl (0, .inl (List.replicate 20 0)),
  .inl (0, .inl (List.replicate 20 0)),
  .inl (0, .inl (List.replicate 21 0)),
  .inr (10, [.int 8, .int 8, .ref 15]),
  .inl (2, .inr (.inl (List.replicate 20 0))),
  .inr (5, [.ref 17, .ref 18, .ref 19]),
  .inl (1, .inl (List.replicate 4 0)),
  .inl (0, .inl (List.replicate 4 0)),
  .inl (0, .inl (List.replicate 4 0)),
  .inr (4, [.int (-9), .int (-9), .int (-9), .ref 21, .ref 25]),
  .inr (5, [.ref 22, .ref 23, .ref 24]),
  .inl (1, .inl (List.replicate 4 0)),
  .inl (0, .inl (List.replicate 4 0)),
  .inl (0, .inl (List.replicate 4 0)),
  .inr (8, [.int 0, .ref 26]),
  .inl (2, .inr (.inl (List.replicate 20 0))),
  .inr (9, [.int 2, .int 3, .int 0, .int (-9), .int 0, .ref 28, .ref 29, .ref 30, .ref 31]),
  .inl (0, .inl (List.replicate 12 0)),
  .inl (0, .inl (List.replicate 12 0)),
  .inl (0, .inl (List.replicate 12 0)),
  .inl (0, .inl (List.replicate 12 0)),
  .inr (2, [.int 0, .int 0, .int 0, .ref 33, .ref 34, .ref 35, .ref 36]),
  .inl (0, .inl (List.replicate 7 0)),
  .inl (0, .inl (List.replicate 7 0)),
  .inl (0, .inl (List.replicate 7 0)),
  .inl (1, .inl (List.replicate 7 0)),
  .inr (7, [.int 0, .ref 38, .ref 39, .ref 40]),
  .inl (0, .inl (List.replicate 20 0)),
  .inl (0, .inl (List.replicate 20 0)),
  .inl (0, .inl (List.replicate 20 0)),
  .inr (0, [.ref 42, .ref 43, .ref 44]),
  .inl (0, .inl (List.replicate 6 0)),
  .inl (0, .inl (List.replicate 6 0)),
  .inl (0, .inl (List.replicate 6 0)),
  .inl (3, .inr (.inr [some 46, some 49, some 52, some 55])),
  .inr (1, [.int 0, .int 0, .ref 47]),
  .inr (10, [.int 8, .int 8, .ref 48]),
  .inl (2, .inr (.inl (List.replicate 20 0))),
  .inr (1, [.int 0, .int 0, .ref 50]),
  .inr (10, [.int 8, .int 8, .ref 51]),
  .inl (2, .inr (.inl (List.replicate 20 0))),
  .inr (1, [.int 0, .int 0, .ref 53]),
  .inr (10, [.int 8, .int 8, .ref 54]),
  .inl (2, .inr (.inl (List.replicate 20 0))),
  .inr (1, [.int 0, .int 0, .ref 56]),
  .inr (10, [.int 8, .int 8, .ref 57]),
  .inl (2, .inr (.inl (List.replicate 20 0))),
  .inl (0, .inl (List.replicate 7 0))]
noncomputable def pm_w2m : pm_W := [
  .inr (12, [.int 8, .int 8, .ref 60, .int 6, .int 0, .int 0, .int 0, .ref 61, .ref 62, .ref 63, .int 0, .int 2, .int 3, .int (-9), .int 0, .int 0, .ref 64, .ref 65, .ref 66, .ref 67, .int 0, .ref 68, .ref 69, .ref 70, .ref 71, .ref 72, .ref 73, .ref 74, .ref 75, .ref 76, .ref 77, .ref 78, .ref 79, .ref 80, .ref 81, .int 0, .ref 82, .ref 83, .ref 84, .int 0, .int 0, .ref 85, .int 0, .ref 86, .ref 87]),
  .inl (0, .inl (List.replicate 400 0)),
  .inl (0, .inl (List.replicate 400 0)),
  .inl (0, .inl ([(-1), (-1), (-1), (-1)])),
  .inl (0, .inl ([(-1), (-1), (-1), (-1)])),
  .inl (0, .inl (List.replicate 12 0)),
  .inl (0, .inl (List.replicate 12 0)),
  .inl (0, .inl (List.replicate 12 0)),
  .inl (0, .inl (List.replicate 12 0)),
  .inl (0, .inl (List.replicate 20 0)),
  .inl (0, .inl (List.replicate 20 0)),
  .inl (0, .inl (List.replicate 20 0)),
  .inl (0, .inl (List.replicate 6 0)),
  .inl (0, .inl (List.replicate 6 0)),
  .inl (0, .inl (List.replicate 6 0)),
  .inl (0, .inl (List.replicate 4 0)),
  .inl (0, .inl (List.replicate 4 0)),
  .inl (0, .inl (List.replicate 4 0)),
  .inl (0, .inl (List.replicate 4 0)),
  .inl (0, .inl (List.replicate 1600 0)),
  .inl (0, .inl (List.replicate 7 0)),
  .inl (0, .inl (List.replicate 20 0)),
  .inl (0, .inl (List.replicate 20 0)),
  .inl (0, .inl (List.replicate 21 0)),
  .inl (0, .inl (List.replicate 21 0)),
  .inl (0, .inl (List.replicate 400 0)),
  .inl (0, .inl (List.replicate 7 0)),
  .inl (0, .inl (List.replicate 7 0)),
  .inl (0, .inl (List.replicate 7 0))]
noncomputable def pm_w2 : pm_W := pm_w1 ++ pm_w2m
set_option maxRecDepth 100000 in
theorem pm_init1 : pm_run none 484 39 70 0 (pm_ent [.ref 0] 2) [] [.inr (11, pm_dfl 11 15)] 0 0 = some (none, pm_w1, 58, 550) := pm_eqR_eq (by decide +kernel)
set_option maxRecDepth 100000 in
theorem pm_init2 : pm_run none 170 39 116 0 (pm_ent [.ref 59] 1) [] (pm_w1 ++ [.inr (12, pm_dfl 12 45)]) 0 0 = some (none, pm_w2, 28, 3060) := pm_eqR_eq (by decide +kernel)

