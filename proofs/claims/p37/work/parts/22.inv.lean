def pm_rng (x : Int32) (a b : Int) : Prop := a ≤ x.toInt ∧ x.toInt ≤ b
def pm_cell (gi : Nat → Int32) (ga : Nat → List Int32) (k : Nat) (o : Option pm_C) : Prop := match k with
  | 0 => ∃ (v6 : Int32), (v6 = 0 ∨ v6 = 1) ∧ o = some (.inr (11, [.ref 1, .ref 3, .ref 5, .ref 10, .int (gi 2), .ref 14, .int v6, .ref 16, .ref 20, .ref 27, .ref 32, .ref 37, .ref 41, .ref 45, .ref 58]))
  | 1 => o = some (.inr (10, [.int (gi 0), .int (gi 1), .ref 2]))
  | 2 => (ga 15).length = 400 ∧ (∀ x ∈ ga 15, pm_rng x 0 3) ∧ o = some (.inl (2, .inr (.inl (pm_enc (ga 15)))))
  | 3 => ∃ (v0 : Int32), pm_rng v0 0 20 ∧ o = some (.inr (8, [.int v0, .ref 4]))
  | 4 => ∃ (xs : List Int64), xs.length = 20 ∧ o = some (.inl (2, .inr (.inl xs)))
  | 5 => ∃ (v0 : Int32), pm_rng v0 0 20 ∧ o = some (.inr (3, [.int v0, .ref 6, .ref 8, .ref 9]))
  | 6 => ∃ (v0 : Int32), pm_rng v0 0 20 ∧ o = some (.inr (8, [.int v0, .ref 7]))
  | 7 => ∃ (xs : List Int64), xs.length = 20 ∧ o = some (.inl (2, .inr (.inl xs)))
  | 8 => ∃ (xs : List Int32), xs.length = 20 ∧ (∀ x ∈ xs, pm_rng x (0) 19) ∧ o = some (.inl (0, .inl xs))
  | 9 => ∃ (xs : List Int32), xs.length = 20 ∧ (∀ x ∈ xs, pm_rng x (0) 19) ∧ o = some (.inl (0, .inl xs))
  | 10 => ∃ (v0 : Int32) (v1 : Int32) (v2 : Int32), pm_rng v0 1 20 ∧ pm_rng v1 0 20 ∧ (v2 = 0 ∨ v2 = 1) ∧ o = some (.inr (6, [.int v0, .int v1, .int v2, .ref 11, .ref 12, .ref 13]))
  | 11 => ∃ (xs : List Int32), xs.length = 20 ∧ o = some (.inl (0, .inl xs))
  | 12 => ∃ (xs : List Int32), xs.length = 20 ∧ (∀ x ∈ xs, pm_rng x (0) 20) ∧ o = some (.inl (0, .inl xs))
  | 13 => ∃ (xs : List Int32), xs.length = 21 ∧ o = some (.inl (0, .inl xs))
  | 14 => ∃ (v0 : Int32) (v1 : Int32), pm_rng v0 1 20 ∧ pm_rng v1 1 20 ∧ o = some (.inr (10, [.int v0, .int v1, .ref 15]))
  | 15 => ∃ (xs : List Int64), xs.length = 20 ∧ o = some (.inl (2, .inr (.inl xs)))
  | 16 => o = some (.inr (5, [.ref 17, .ref 18, .ref 19]))
  | 17 => ∃ (xs : List Int32), xs.length = 4 ∧ (∀ x ∈ xs, pm_rng x (0) 1) ∧ o = some (.inl (1, .inl xs))
  | 18 => ∃ (xs : List Int32), xs.length = 4 ∧ o = some (.inl (0, .inl xs))
  | 19 => ∃ (xs : List Int32), xs.length = 4 ∧ o = some (.inl (0, .inl xs))
  | 20 => ∃ (v0 : Int32) (v1 : Int32) (v2 : Int32), o = some (.inr (4, [.int v0, .int v1, .int v2, .ref 21, .ref 25]))
  | 21 => o = some (.inr (5, [.ref 22, .ref 23, .ref 24]))
  | 22 => ∃ (xs : List Int32), xs.length = 4 ∧ (∀ x ∈ xs, pm_rng x (0) 1) ∧ o = some (.inl (1, .inl xs))
  | 23 => ∃ (xs : List Int32), xs.length = 4 ∧ o = some (.inl (0, .inl xs))
  | 24 => ∃ (xs : List Int32), xs.length = 4 ∧ o = some (.inl (0, .inl xs))
  | 25 => ∃ (v0 : Int32), pm_rng v0 0 20 ∧ o = some (.inr (8, [.int v0, .ref 26]))
  | 26 => ∃ (xs : List Int64), xs.length = 20 ∧ o = some (.inl (2, .inr (.inl xs)))
  | 27 => o = some (.inr (9, [.int (gi 3), .int (gi 4), .int (gi 5), .int (gi 6), .int (gi 7), .ref 28, .ref 29, .ref 30, .ref 31]))
  | 28 => o = some (.inl (0, .inl (ga 0)))
  | 29 => o = some (.inl (0, .inl (ga 1)))
  | 30 => o = some (.inl (0, .inl (ga 2)))
  | 31 => o = some (.inl (0, .inl (ga 3)))
  | 32 => ∃ (v0 : Int32) (v1 : Int32) (v2 : Int32), (v0 = 0 ∨ v0 = 1) ∧ pm_rng v2 0 7 ∧ o = some (.inr (2, [.int v0, .int v1, .int v2, .ref 33, .ref 34, .ref 35, .ref 36]))
  | 33 => ∃ (xs : List Int32), xs.length = 7 ∧ (∀ x ∈ xs, pm_rng x (0) 11) ∧ o = some (.inl (0, .inl xs))
  | 34 => ∃ (xs : List Int32), xs.length = 7 ∧ (∀ x ∈ xs, pm_rng x (0) 11) ∧ o = some (.inl (0, .inl xs))
  | 35 => ∃ (xs : List Int32), xs.length = 7 ∧ (∀ x ∈ xs, pm_rng x (0) 11) ∧ o = some (.inl (0, .inl xs))
  | 36 => ∃ (xs : List Int32), xs.length = 7 ∧ (∀ x ∈ xs, pm_rng x (0) 1) ∧ o = some (.inl (1, .inl xs))
  | 37 => o = some (.inr (7, [.int (gi 8), .ref 38, .ref 39, .ref 40]))
  | 38 => o = some (.inl (0, .inl (ga 4)))
  | 39 => o = some (.inl (0, .inl (ga 5)))
  | 40 => o = some (.inl (0, .inl (ga 6)))
  | 41 => o = some (.inr (0, [.ref 42, .ref 43, .ref 44]))
  | 42 => o = some (.inl (0, .inl (ga 9)))
  | 43 => o = some (.inl (0, .inl (ga 10)))
  | 44 => o = some (.inl (0, .inl (ga 11)))
  | 45 => o = some (.inl (3, .inr (.inr [some 46, some 49, some 52, some 55])))
  | 46 => o = some (.inr (1, [.int ((ga 7).getD 0 0), .int ((ga 8).getD 0 0), .ref 47]))
  | 47 => o = some (.inr (10, [.int ((ga 13).getD 0 0), .int ((ga 14).getD 0 0), .ref 48]))
  | 48 => (ga 16).length = 400 ∧ (∀ x ∈ ga 16, pm_rng x 0 3) ∧ o = some (.inl (2, .inr (.inl (pm_enc (ga 16)))))
  | 49 => o = some (.inr (1, [.int ((ga 7).getD 1 0), .int ((ga 8).getD 1 0), .ref 50]))
  | 50 => o = some (.inr (10, [.int ((ga 13).getD 1 0), .int ((ga 14).getD 1 0), .ref 51]))
  | 51 => (ga 17).length = 400 ∧ (∀ x ∈ ga 17, pm_rng x 0 3) ∧ o = some (.inl (2, .inr (.inl (pm_enc (ga 17)))))
  | 52 => o = some (.inr (1, [.int ((ga 7).getD 2 0), .int ((ga 8).getD 2 0), .ref 53]))
  | 53 => o = some (.inr (10, [.int ((ga 13).getD 2 0), .int ((ga 14).getD 2 0), .ref 54]))
  | 54 => (ga 18).length = 400 ∧ (∀ x ∈ ga 18, pm_rng x 0 3) ∧ o = some (.inl (2, .inr (.inl (pm_enc (ga 18)))))
  | 55 => o = some (.inr (1, [.int ((ga 7).getD 3 0), .int ((ga 8).getD 3 0), .ref 56]))
  | 56 => o = some (.inr (10, [.int ((ga 13).getD 3 0), .int ((ga 14).getD 3 0), .ref 57]))
  | 57 => (ga 19).length = 400 ∧ (∀ x ∈ ga 19, pm_rng x 0 3) ∧ o = some (.inl (2, .inr (.inl (pm_enc (ga 19)))))
  | 58 => ∃ (xs : List Int32), xs.length = 7 ∧ o = some (.inl (0, .inl xs))
  | 59 => ∃ (v4 : Int32) (v5 : Int32) (v6 : Int32) (v14 : Int32) (v35 : Int32) (v39 : Int32) (v40 : Int32) (v42 : Int32), (v4 = 0 ∨ v4 = 1) ∧ pm_rng v5 0 20 ∧ pm_rng v6 0 20 ∧ pm_rng v35 0 20 ∧ pm_rng v42 0 12 ∧ o = some (.inr (12, [.int (gi 0), .int (gi 1), .ref 60, .int (gi 2), .int v4, .int v5, .int v6, .ref 61, .ref 62, .ref 63, .int (gi 5), .int (gi 3), .int (gi 4), .int (gi 6), .int v14, .int (gi 7), .ref 64, .ref 65, .ref 66, .ref 67, .int (gi 8), .ref 68, .ref 69, .ref 70, .ref 71, .ref 72, .ref 73, .ref 74, .ref 75, .ref 76, .ref 77, .ref 78, .ref 79, .ref 80, .ref 81, .int v35, .ref 82, .ref 83, .ref 84, .int v39, .int v40, .ref 85, .int v42, .ref 86, .ref 87]))
  | 60 => (ga 15).length = 400 ∧ (∀ x ∈ ga 15, pm_rng x 0 3) ∧ o = some (.inl (0, .inl (ga 15)))
  | 61 => ∃ (xs : List Int32), xs.length = 400 ∧ o = some (.inl (0, .inl xs))
  | 62 => ∃ (xs : List Int32), xs.length = 4 ∧ o = some (.inl (0, .inl xs))
  | 63 => ∃ (xs : List Int32), xs.length = 4 ∧ o = some (.inl (0, .inl xs))
  | 64 => o = some (.inl (0, .inl (ga 0)))
  | 65 => o = some (.inl (0, .inl (ga 1)))
  | 66 => o = some (.inl (0, .inl (ga 2)))
  | 67 => o = some (.inl (0, .inl (ga 3)))
  | 68 => o = some (.inl (0, .inl (ga 4)))
  | 69 => o = some (.inl (0, .inl (ga 5)))
  | 70 => o = some (.inl (0, .inl (ga 6)))
  | 71 => o = some (.inl (0, .inl (ga 9)))
  | 72 => o = some (.inl (0, .inl (ga 10)))
  | 73 => o = some (.inl (0, .inl (ga 11)))
  | 74 => o = some (.inl (0, .inl (ga 7)))
  | 75 => o = some (.inl (0, .inl (ga 8)))
  | 76 => ∃ (xs : List Int32), xs.length = 4 ∧ (∀ b, b < 4 → (ga 7).getD b 0 = 2 → xs.getD b 0 = (ga 13).getD b 0) ∧ o = some (.inl (0, .inl xs))
  | 77 => ∃ (xs : List Int32), xs.length = 4 ∧ (∀ b, b < 4 → (ga 7).getD b 0 = 2 → xs.getD b 0 = (ga 14).getD b 0) ∧ o = some (.inl (0, .inl xs))
  | 78 => (ga 20).length = 1600 ∧ (∀ x ∈ ga 20, pm_rng x 0 3) ∧ o = some (.inl (0, .inl (ga 20)))
  | 79 => ∃ (xs : List Int32), xs.length = 7 ∧ o = some (.inl (0, .inl xs))
  | 80 => ∃ (xs : List Int32), xs.length = 20 ∧ (∀ x ∈ xs, pm_rng x (-1) 19) ∧ o = some (.inl (0, .inl xs))
  | 81 => ∃ (xs : List Int32), xs.length = 20 ∧ (∀ x ∈ xs, pm_rng x (0) 19) ∧ o = some (.inl (0, .inl xs))
  | 82 => ∃ (xs : List Int32), xs.length = 21 ∧ o = some (.inl (0, .inl xs))
  | 83 => ∃ (xs : List Int32), xs.length = 21 ∧ o = some (.inl (0, .inl xs))
  | 84 => ∃ (xs : List Int32), xs.length = 400 ∧ o = some (.inl (0, .inl xs))
  | 85 => ∃ (xs : List Int32), xs.length = 7 ∧ (∀ x ∈ xs, pm_rng x (0) 11) ∧ o = some (.inl (0, .inl xs))
  | 86 => ∃ (xs : List Int32), xs.length = 7 ∧ (∀ x ∈ xs, pm_rng x (0) 11) ∧ o = some (.inl (0, .inl xs))
  | 87 => ∃ (xs : List Int32), xs.length = 7 ∧ (∀ x ∈ xs, pm_rng x (0) 11) ∧ o = some (.inl (0, .inl xs))
  | _ => True
/-- ranges of what both sides share -/
def pm_Rg (gi : Nat → Int32) (ga : Nat → List Int32) : Prop := pm_rng (gi 0) 1 20 ∧ pm_rng (gi 1) 1 20 ∧ pm_rng (gi 2) 1 20 ∧ pm_rng (gi 3) 1 20 ∧ pm_rng (gi 4) 0 20 ∧ pm_rng (gi 5) 0 3000 ∧ pm_rng (gi 6) (-9) 5 ∧ pm_rng (gi 7) 0 12 ∧ pm_rng (gi 8) 0 20 ∧
  ((ga 0).length = 12 ∧ (ga 1).length = 12 ∧ (ga 2).length = 12 ∧ (ga 3).length = 12 ∧ (ga 4).length = 20 ∧ (ga 5).length = 20 ∧ (ga 6).length = 20 ∧ (ga 7).length = 4 ∧ (ga 8).length = 4 ∧ (ga 9).length = 6 ∧ (ga 10).length = 6 ∧ (ga 11).length = 6 ∧ (ga 12).length = 7 ∧ (ga 13).length = 4 ∧ (ga 14).length = 4) ∧
  (∀ x ∈ ga 0, pm_rng x 0 99) ∧ (∀ x ∈ ga 1, pm_rng x 0 5) ∧ (∀ x ∈ ga 2, pm_rng x 0 2000) ∧ (∀ x ∈ ga 3, pm_rng x (-9) 3000) ∧ (∀ x ∈ ga 4, pm_rng x 0 200) ∧ (∀ x ∈ ga 5, pm_rng x 0 999) ∧ (∀ x ∈ ga 6, pm_rng x 0 3000) ∧ (∀ x ∈ ga 7, pm_rng x 0 2) ∧ (∀ x ∈ ga 8, pm_rng x 0 500) ∧ (∀ x ∈ ga 13, pm_rng x 1 20) ∧ (∀ x ∈ ga 14, pm_rng x 1 20)
def pm_IX (gi : Nat → Int32) (ga : Nat → List Int32) (w : pm_W) : Prop := w.length = 88 ∧ ∀ k, k < 59 → pm_cell gi ga k w[k]?
/-- the reference's faults: a crossing has both its cords -/
def pm_FM (w : pm_W) : Prop := ∃ fA fB : List Int32, w[62]? = some (.inl (0, .inl fA)) ∧ w[63]? = some (.inl (0, .inl fB)) ∧ fA.length = 4 ∧ fB.length = 4 ∧ (0 ≤ (fA.getD 3 0).toInt → 0 ≤ (fB.getD 3 0).toInt)
def pm_IM (gi : Nat → Int32) (ga : Nat → List Int32) (w : pm_W) : Prop := w.length = 88 ∧ (∀ k, 59 ≤ k → k < 88 → pm_cell gi ga k w[k]?) ∧ pm_FM w
/-- the other side is as it was -/
def pm_hi (w w' : pm_W) : Prop := w'.length = w.length ∧ ∀ k, 59 ≤ k → w'[k]? = w[k]?
def pm_lo (w w' : pm_W) : Prop := w'.length = w.length ∧ ∀ k, k < 59 → w'[k]? = w[k]?
theorem pm_hi.rf {w : pm_W} : pm_hi w w := ⟨rfl, fun _ _ => rfl⟩
theorem pm_lo.rf {w : pm_W} : pm_lo w w := ⟨rfl, fun _ _ => rfl⟩
theorem pm_hi.tr {u v w : pm_W} (h : pm_hi u v) (g : pm_hi v w) : pm_hi u w := ⟨g.1.trans h.1, fun k hk => (g.2 k hk).trans (h.2 k hk)⟩
theorem pm_lo.tr {u v w : pm_W} (h : pm_lo u v) (g : pm_lo v w) : pm_lo u w := ⟨g.1.trans h.1, fun k hk => (g.2 k hk).trans (h.2 k hk)⟩
theorem pm_hi.set {u w : pm_W} (h : pm_hi u w) {p : Nat} (hp : p < 59) (c : pm_C) : pm_hi u (w.set p c) := ⟨by rw [List.length_set]; exact h.1, fun k hk => by rw [List.getElem?_set_ne (by omega)]; exact h.2 k hk⟩
theorem pm_lo.set {u w : pm_W} (h : pm_lo u w) {p : Nat} (hp : 59 ≤ p) (c : pm_C) : pm_lo u (w.set p c) := ⟨by rw [List.length_set]; exact h.1, fun k hk => by rw [List.getElem?_set_ne (by omega)]; exact h.2 k hk⟩
theorem pm_IX.set {gi : Nat → Int32} {ga : Nat → List Int32} {w : pm_W} (h : pm_IX gi ga w) (p : Nat) (hp : p < 59) {c : pm_C} (hc : pm_cell gi ga p (some c)) : pm_IX gi ga (w.set p c) := ⟨by rw [List.length_set]; exact h.1, fun k hk => by
  by_cases e : p = k
  · subst e
    rw [List.getElem?_set_self (by rw [h.1]; omega)]
    exact hc
  · rw [List.getElem?_set_ne e]
    exact h.2 k hk⟩
theorem pm_FM.set {w : pm_W} (h : pm_FM w) (p : Nat) (h1 : p ≠ 62) (h2 : p ≠ 63) (c : pm_C) : pm_FM (w.set p c) := by
  obtain ⟨fA, fB, g1, g2, g3⟩ := h
  exact ⟨fA, fB, by rw [List.getElem?_set_ne h1]; exact g1, by rw [List.getElem?_set_ne h2]; exact g2, g3⟩
theorem pm_IM.set {gi : Nat → Int32} {ga : Nat → List Int32} {w : pm_W} (h : pm_IM gi ga w) (p : Nat) (h1 : 59 ≤ p) (h2 : p < 88) (h3 : p ≠ 62) (h4 : p ≠ 63) {c : pm_C} (hc : pm_cell gi ga p (some c)) : pm_IM gi ga (w.set p c) := ⟨by rw [List.length_set]; exact h.1, fun k hk hk2 => by
  by_cases e : p = k
  · subst e
    rw [List.getElem?_set_self (by rw [h.1]; omega)]
    exact hc
  · rw [List.getElem?_set_ne e]
    exact h.2.1 k hk hk2, h.2.2.set p h3 h4 c⟩
theorem pm_IM.hi {gi : Nat → Int32} {ga : Nat → List Int32} {w w' : pm_W} (h : pm_IM gi ga w) (g : pm_hi w w') : pm_IM gi ga w' := ⟨g.1.trans h.1, fun k h1 h2 => by rw [g.2 k h1]; exact h.2.1 k h1 h2, by
  obtain ⟨fA, fB, g1, g2, g3⟩ := h.2.2
  exact ⟨fA, fB, by rw [g.2 62 (by omega)]; exact g1, by rw [g.2 63 (by omega)]; exact g2, g3⟩⟩
theorem pm_IX.lo {gi : Nat → Int32} {ga : Nat → List Int32} {w w' : pm_W} (h : pm_IX gi ga w) (g : pm_lo w w') : pm_IX gi ga w' := ⟨g.1.trans h.1, fun k h1 => by rw [g.2 k h1]; exact h.2 k h1⟩
/-- at first -/
noncomputable def pm_gi0 (k : Nat) : Int32 := match k with
  | 0 => 8 | 1 => 8 | 2 => 6 | 3 => 2 | 4 => 3 | 6 => -9 | _ => 0
noncomputable def pm_ga0 (k : Nat) : List Int32 := match k with
  | 0 => List.replicate 12 0 | 1 => List.replicate 12 0 | 2 => List.replicate 12 0 | 3 => List.replicate 12 0 | 4 => List.replicate 20 0 | 5 => List.replicate 20 0 | 6 => List.replicate 20 0 | 7 => List.replicate 4 0 | 8 => List.replicate 4 0 | 9 => List.replicate 6 0 | 10 => List.replicate 6 0 | 11 => List.replicate 6 0 | 13 => List.replicate 4 8 | 14 => List.replicate 4 8 | 15 => List.replicate 400 0 | 16 => List.replicate 400 0 | 17 => List.replicate 400 0 | 18 => List.replicate 400 0 | 19 => List.replicate 400 0 | 20 => List.replicate 1600 0 | _ => List.replicate 7 0
theorem pm_rep_rng {n : Nat} {a b : Int} (h1 : a ≤ 0) (h2 : 0 ≤ b) : ∀ x ∈ List.replicate n (0 : Int32), pm_rng x a b := fun x hx => by
  rw [(List.mem_replicate.mp hx).2]
  exact ⟨h1, h2⟩
theorem pm_Rg0 : pm_Rg pm_gi0 pm_ga0 := by
  refine ⟨⟨?_, ?_⟩, ⟨?_, ?_⟩, ⟨?_, ?_⟩, ⟨?_, ?_⟩, ⟨?_, ?_⟩, ⟨?_, ?_⟩, ⟨?_, ?_⟩, ⟨?_, ?_⟩, ⟨?_, ?_⟩, ⟨rfl, rfl, rfl, rfl, rfl, rfl, rfl, rfl, rfl, rfl, rfl, rfl, rfl, rfl, rfl⟩, ?_⟩
  all_goals first | decide | skip
  refine ⟨?_, ?_, ?_, ?_, ?_, ?_, ?_, ?_, ?_, ?_, ?_⟩
  all_goals first | exact pm_rep_rng (by decide) (by decide) | (intro x hx; rw [(List.mem_replicate.mp hx).2]; exact ⟨by decide, by decide⟩)
/-- which numbers and rows a cell speaks of -/
noncomputable def pm_dI (k : Nat) : List Nat := match k with
  | 0 => [2]
  | 1 => [0, 1]
  | 27 => [3, 4, 5, 6, 7]
  | 37 => [8]
  | 59 => [0, 1, 2, 3, 4, 5, 6, 7, 8]
  | _ => []
noncomputable def pm_dA (k : Nat) : List Nat := match k with
  | 2 => [15]
  | 28 => [0]
  | 29 => [1]
  | 30 => [2]
  | 31 => [3]
  | 38 => [4]
  | 39 => [5]
  | 40 => [6]
  | 42 => [9]
  | 43 => [10]
  | 44 => [11]
  | 46 => [7, 8]
  | 47 => [13, 14]
  | 48 => [16]
  | 49 => [7, 8]
  | 50 => [13, 14]
  | 51 => [17]
  | 52 => [7, 8]
  | 53 => [13, 14]
  | 54 => [18]
  | 55 => [7, 8]
  | 56 => [13, 14]
  | 57 => [19]
  | 60 => [15]
  | 64 => [0]
  | 65 => [1]
  | 66 => [2]
  | 67 => [3]
  | 68 => [4]
  | 69 => [5]
  | 70 => [6]
  | 71 => [9]
  | 72 => [10]
  | 73 => [11]
  | 74 => [7]
  | 75 => [8]
  | 76 => [7, 13]
  | 77 => [7, 14]
  | 78 => [20]
  | _ => []
set_option maxRecDepth 100000 in
theorem pm_cell_eq {gi gi' : Nat → Int32} {ga ga' : Nat → List Int32} {k : Nat} {o : Option pm_C} (hi : ∀ i ∈ pm_dI k, gi' i = gi i) (ha : ∀ i ∈ pm_dA k, ga' i = ga i) (h : pm_cell gi ga k o) : pm_cell gi' ga' k o := by
  match k, hi, ha, h with
  | 0, hi, ha, h =>
    unfold pm_cell at h ⊢
    rw [hi 2 (by decide)]
    exact h
  | 1, hi, ha, h =>
    unfold pm_cell at h ⊢
    rw [hi 0 (by decide), hi 1 (by decide)]
    exact h
  | 2, hi, ha, h =>
    unfold pm_cell at h ⊢
    rw [ha 15 (by decide)]
    exact h
  | 3, _, _, h => exact h
  | 4, _, _, h => exact h
  | 5, _, _, h => exact h
  | 6, _, _, h => exact h
  | 7, _, _, h => exact h
  | 8, _, _, h => exact h
  | 9, _, _, h => exact h
  | 10, _, _, h => exact h
  | 11, _, _, h => exact h
  | 12, _, _, h => exact h
  | 13, _, _, h => exact h
  | 14, _, _, h => exact h
  | 15, _, _, h => exact h
  | 16, _, _, h => exact h
  | 17, _, _, h => exact h
  | 18, _, _, h => exact h
  | 19, _, _, h => exact h
  | 20, _, _, h => exact h
  | 21, _, _, h => exact h
  | 22, _, _, h => exact h
  | 23, _, _, h => exact h
  | 24, _, _, h => exact h
  | 25, _, _, h => exact h
  | 26, _, _, h => exact h
  | 27, hi, ha, h =>
    unfold pm_cell at h ⊢
    rw [hi 3 (by decide), hi 4 (by decide), hi 5 (by decide), hi 6 (by decide), hi 7 (by decide)]
    exact h
  | 28, hi, ha, h =>
    unfold pm_cell at h ⊢
    rw [ha 0 (by decide)]
    exact h
  | 29, hi, ha, h =>
    unfold pm_cell at h ⊢
    rw [ha 1 (by decide)]
    exact h
  | 30, hi, ha, h =>
    unfold pm_cell at h ⊢
    rw [ha 2 (by decide)]
    exact h
  | 31, hi, ha, h =>
    unfold pm_cell at h ⊢
    rw [ha 3 (by decide)]
    exact h
  | 32, _, _, h => exact h
  | 33, _, _, h => exact h
  | 34, _, _, h => exact h
  | 35, _, _, h => exact h
  | 36, _, _, h => exact h
  | 37, hi, ha, h =>
    unfold pm_cell at h ⊢
    rw [hi 8 (by decide)]
    exact h
  | 38, hi, ha, h =>
    unfold pm_cell at h ⊢
    rw [ha 4 (by decide)]
    exact h
  | 39, hi, ha, h =>
    unfold pm_cell at h ⊢
    rw [ha 5 (by decide)]
    exact h
  | 40, hi, ha, h =>
    unfold pm_cell at h ⊢
    rw [ha 6 (by decide)]
    exact h
  | 41, _, _, h => exact h
  | 42, hi, ha, h =>
    unfold pm_cell at h ⊢
    rw [ha 9 (by decide)]
    exact h
  | 43, hi, ha, h =>
    unfold pm_cell at h ⊢
    rw [ha 10 (by decide)]
    exact h
  | 44, hi, ha, h =>
    unfold pm_cell at h ⊢
    rw [ha 11 (by decide)]
    exact h
  | 45, _, _, h => exact h
  | 46, hi, ha, h =>
    unfold pm_cell at h ⊢
    rw [ha 7 (by decide), ha 8 (by decide)]
    exact h
  | 47, hi, ha, h =>
    unfold pm_cell at h ⊢
    rw [ha 13 (by decide), ha 14 (by decide)]
    exact h
  | 48, hi, ha, h =>
    unfold pm_cell at h ⊢
    rw [ha 16 (by decide)]
    exact h
  | 49, hi, ha, h =>
    unfold pm_cell at h ⊢
    rw [ha 7 (by decide), ha 8 (by decide)]
    exact h
  | 50, hi, ha, h =>
    unfold pm_cell at h ⊢
    rw [ha 13 (by decide), ha 14 (by decide)]
    exact h
  | 51, hi, ha, h =>
    unfold pm_cell at h ⊢
    rw [ha 17 (by decide)]
    exact h
  | 52, hi, ha, h =>
    unfold pm_cell at h ⊢
    rw [ha 7 (by decide), ha 8 (by decide)]
    exact h
  | 53, hi, ha, h =>
    unfold pm_cell at h ⊢
    rw [ha 13 (by decide), ha 14 (by decide)]
    exact h
  | 54, hi, ha, h =>
    unfold pm_cell at h ⊢
    rw [ha 18 (by decide)]
    exact h
  | 55, hi, ha, h =>
    unfold pm_cell at h ⊢
    rw [ha 7 (by decide), ha 8 (by decide)]
    exact h
  | 56, hi, ha, h =>
    unfold pm_cell at h ⊢
    rw [ha 13 (by decide), ha 14 (by decide)]
    exact h
  | 57, hi, ha, h =>
    unfold pm_cell at h ⊢
    rw [ha 19 (by decide)]
    exact h
  | 58, _, _, h => exact h
  | 59, hi, ha, h =>
    unfold pm_cell at h ⊢
    rw [hi 0 (by decide), hi 1 (by decide), hi 2 (by decide), hi 3 (by decide), hi 4 (by decide), hi 5 (by decide), hi 6 (by decide), hi 7 (by decide), hi 8 (by decide)]
    exact h
  | 60, hi, ha, h =>
    unfold pm_cell at h ⊢
    rw [ha 15 (by decide)]
    exact h
  | 61, _, _, h => exact h
  | 62, _, _, h => exact h
  | 63, _, _, h => exact h
  | 64, hi, ha, h =>
    unfold pm_cell at h ⊢
    rw [ha 0 (by decide)]
    exact h
  | 65, hi, ha, h =>
    unfold pm_cell at h ⊢
    rw [ha 1 (by decide)]
    exact h
  | 66, hi, ha, h =>
    unfold pm_cell at h ⊢
    rw [ha 2 (by decide)]
    exact h
  | 67, hi, ha, h =>
    unfold pm_cell at h ⊢
    rw [ha 3 (by decide)]
    exact h
  | 68, hi, ha, h =>
    unfold pm_cell at h ⊢
    rw [ha 4 (by decide)]
    exact h
  | 69, hi, ha, h =>
    unfold pm_cell at h ⊢
    rw [ha 5 (by decide)]
    exact h
  | 70, hi, ha, h =>
    unfold pm_cell at h ⊢
    rw [ha 6 (by decide)]
    exact h
  | 71, hi, ha, h =>
    unfold pm_cell at h ⊢
    rw [ha 9 (by decide)]
    exact h
  | 72, hi, ha, h =>
    unfold pm_cell at h ⊢
    rw [ha 10 (by decide)]
    exact h
  | 73, hi, ha, h =>
    unfold pm_cell at h ⊢
    rw [ha 11 (by decide)]
    exact h
  | 74, hi, ha, h =>
    unfold pm_cell at h ⊢
    rw [ha 7 (by decide)]
    exact h
  | 75, hi, ha, h =>
    unfold pm_cell at h ⊢
    rw [ha 8 (by decide)]
    exact h
  | 76, hi, ha, h =>
    unfold pm_cell at h ⊢
    rw [ha 7 (by decide), ha 13 (by decide)]
    exact h
  | 77, hi, ha, h =>
    unfold pm_cell at h ⊢
    rw [ha 7 (by decide), ha 14 (by decide)]
    exact h
  | 78, hi, ha, h =>
    unfold pm_cell at h ⊢
    rw [ha 20 (by decide)]
    exact h
  | 79, _, _, h => exact h
  | 80, _, _, h => exact h
  | 81, _, _, h => exact h
  | 82, _, _, h => exact h
  | 83, _, _, h => exact h
  | 84, _, _, h => exact h
  | 85, _, _, h => exact h
  | 86, _, _, h => exact h
  | 87, _, _, h => exact h
  | n + 88, _, _, h => exact trivial
/-- one row, or one number, becomes another -/
noncomputable def pm_uA (ga : Nat → List Int32) (j : Nat) (v : List Int32) : Nat → List Int32 := fun i => if i = j then v else ga i
noncomputable def pm_uI (gi : Nat → Int32) (j : Nat) (v : Int32) : Nat → Int32 := fun i => if i = j then v else gi i
theorem pm_uA_self {ga : Nat → List Int32} {j : Nat} {v : List Int32} : pm_uA ga j v j = v := if_pos rfl
theorem pm_uA_ne {ga : Nat → List Int32} {i j : Nat} {v : List Int32} (h : i ≠ j) : pm_uA ga j v i = ga i := if_neg h
theorem pm_uI_ne {gi : Nat → Int32} {i j : Nat} {v : Int32} (h : i ≠ j) : pm_uI gi j v i = gi i := if_neg h
theorem pm_IX.uA {gi : Nat → Int32} {ga : Nat → List Int32} {w : pm_W} (h : pm_IX gi ga w) (p j : Nat) (hp : p < 59) (hd : ∀ k, k < 59 → k ≠ p → ¬ j ∈ pm_dA k) {v : List Int32} {c : pm_C} (hc : pm_cell gi (pm_uA ga j v) p (some c)) : pm_IX gi (pm_uA ga j v) (w.set p c) := ⟨by rw [List.length_set]; exact h.1, fun k hk => by
  by_cases e : p = k
  · subst e
    rw [List.getElem?_set_self (by rw [h.1]; omega)]
    exact hc
  · rw [List.getElem?_set_ne e]
    exact pm_cell_eq (fun _ _ => rfl) (fun i hi => pm_uA_ne (fun e2 => hd k hk (Ne.symm e) (e2 ▸ hi))) (h.2 k hk)⟩
theorem pm_IX.uI {gi : Nat → Int32} {ga : Nat → List Int32} {w : pm_W} (h : pm_IX gi ga w) (p j : Nat) (hp : p < 59) (hd : ∀ k, k < 59 → k ≠ p → ¬ j ∈ pm_dI k) {v : Int32} {c : pm_C} (hc : pm_cell (pm_uI gi j v) ga p (some c)) : pm_IX (pm_uI gi j v) ga (w.set p c) := ⟨by rw [List.length_set]; exact h.1, fun k hk => by
  by_cases e : p = k
  · subst e
    rw [List.getElem?_set_self (by rw [h.1]; omega)]
    exact hc
  · rw [List.getElem?_set_ne e]
    exact pm_cell_eq (fun i hi => pm_uI_ne (fun e2 => hd k hk (Ne.symm e) (e2 ▸ hi))) (fun _ _ => rfl) (h.2 k hk)⟩
theorem pm_IM.uA {gi : Nat → Int32} {ga : Nat → List Int32} {w : pm_W} (h : pm_IM gi ga w) (p j : Nat) (hp : 59 ≤ p) (hp2 : p < 88) (h62 : p ≠ 62) (h63 : p ≠ 63) (hd : ∀ k, k < 88 → 59 ≤ k → k ≠ p → ¬ j ∈ pm_dA k) {v : List Int32} {c : pm_C} (hc : pm_cell gi (pm_uA ga j v) p (some c)) : pm_IM gi (pm_uA ga j v) (w.set p c) := ⟨by rw [List.length_set]; exact h.1, fun k hk hk2 => by
  by_cases e : p = k
  · subst e
    rw [List.getElem?_set_self (by rw [h.1]; omega)]
    exact hc
  · rw [List.getElem?_set_ne e]
    exact pm_cell_eq (fun _ _ => rfl) (fun i hi => pm_uA_ne (fun e2 => hd k hk2 hk (Ne.symm e) (e2 ▸ hi))) (h.2.1 k hk hk2), h.2.2.set p h62 h63 c⟩
theorem pm_IM.uI {gi : Nat → Int32} {ga : Nat → List Int32} {w : pm_W} (h : pm_IM gi ga w) (p j : Nat) (hp : 59 ≤ p) (hp2 : p < 88) (h62 : p ≠ 62) (h63 : p ≠ 63) (hd : ∀ k, k < 88 → 59 ≤ k → k ≠ p → ¬ j ∈ pm_dI k) {v : Int32} {c : pm_C} (hc : pm_cell (pm_uI gi j v) ga p (some c)) : pm_IM (pm_uI gi j v) ga (w.set p c) := ⟨by rw [List.length_set]; exact h.1, fun k hk hk2 => by
  by_cases e : p = k
  · subst e
    rw [List.getElem?_set_self (by rw [h.1]; omega)]
    exact hc
  · rw [List.getElem?_set_ne e]
    exact pm_cell_eq (fun i hi => pm_uI_ne (fun e2 => hd k hk2 hk (Ne.symm e) (e2 ▸ hi))) (fun _ _ => rfl) (h.2.1 k hk hk2), h.2.2.set p h62 h63 c⟩
set_option maxRecDepth 100000 in
theorem pm_IX0 : pm_IX pm_gi0 pm_ga0 pm_w2 := ⟨rfl, fun k hk => by
  match k, hk with
  | 0, _ => exact ⟨0, by decide, rfl⟩
  | 1, _ => exact rfl
  | 2, _ => exact ⟨List.length_replicate, pm_rep_rng (by decide) (by decide), (by rw [show pm_ga0 15 = List.replicate 400 0 from rfl, pm_enc0]; rfl)⟩
  | 3, _ => exact ⟨0, ⟨by decide, by decide⟩, rfl⟩
  | 4, _ => exact ⟨_, rfl, rfl⟩
  | 5, _ => exact ⟨0, ⟨by decide, by decide⟩, rfl⟩
  | 6, _ => exact ⟨0, ⟨by decide, by decide⟩, rfl⟩
  | 7, _ => exact ⟨_, rfl, rfl⟩
  | 8, _ => exact ⟨_, rfl, pm_rep_rng (by decide) (by decide), rfl⟩
  | 9, _ => exact ⟨_, rfl, pm_rep_rng (by decide) (by decide), rfl⟩
  | 10, _ => exact ⟨1, 0, 0, ⟨by decide, by decide⟩, ⟨by decide, by decide⟩, by decide, rfl⟩
  | 11, _ => exact ⟨_, rfl, rfl⟩
  | 12, _ => exact ⟨_, rfl, pm_rep_rng (by decide) (by decide), rfl⟩
  | 13, _ => exact ⟨_, rfl, rfl⟩
  | 14, _ => exact ⟨8, 8, ⟨by decide, by decide⟩, ⟨by decide, by decide⟩, rfl⟩
  | 15, _ => exact ⟨_, rfl, rfl⟩
  | 16, _ => exact rfl
  | 17, _ => exact ⟨_, rfl, pm_rep_rng (by decide) (by decide), rfl⟩
  | 18, _ => exact ⟨_, rfl, rfl⟩
  | 19, _ => exact ⟨_, rfl, rfl⟩
  | 20, _ => exact ⟨(-9), (-9), (-9), rfl⟩
  | 21, _ => exact rfl
  | 22, _ => exact ⟨_, rfl, pm_rep_rng (by decide) (by decide), rfl⟩
  | 23, _ => exact ⟨_, rfl, rfl⟩
  | 24, _ => exact ⟨_, rfl, rfl⟩
  | 25, _ => exact ⟨0, ⟨by decide, by decide⟩, rfl⟩
  | 26, _ => exact ⟨_, rfl, rfl⟩
  | 27, _ => exact rfl
  | 28, _ => exact rfl
  | 29, _ => exact rfl
  | 30, _ => exact rfl
  | 31, _ => exact rfl
  | 32, _ => exact ⟨0, 0, 0, by decide, ⟨by decide, by decide⟩, rfl⟩
  | 33, _ => exact ⟨_, rfl, pm_rep_rng (by decide) (by decide), rfl⟩
  | 34, _ => exact ⟨_, rfl, pm_rep_rng (by decide) (by decide), rfl⟩
  | 35, _ => exact ⟨_, rfl, pm_rep_rng (by decide) (by decide), rfl⟩
  | 36, _ => exact ⟨_, rfl, pm_rep_rng (by decide) (by decide), rfl⟩
  | 37, _ => exact rfl
  | 38, _ => exact rfl
  | 39, _ => exact rfl
  | 40, _ => exact rfl
  | 41, _ => exact rfl
  | 42, _ => exact rfl
  | 43, _ => exact rfl
  | 44, _ => exact rfl
  | 45, _ => exact rfl
  | 46, _ => exact rfl
  | 47, _ => exact rfl
  | 48, _ => exact ⟨List.length_replicate, pm_rep_rng (by decide) (by decide), (by rw [show pm_ga0 16 = List.replicate 400 0 from rfl, pm_enc0]; rfl)⟩
  | 49, _ => exact rfl
  | 50, _ => exact rfl
  | 51, _ => exact ⟨List.length_replicate, pm_rep_rng (by decide) (by decide), (by rw [show pm_ga0 17 = List.replicate 400 0 from rfl, pm_enc0]; rfl)⟩
  | 52, _ => exact rfl
  | 53, _ => exact rfl
  | 54, _ => exact ⟨List.length_replicate, pm_rep_rng (by decide) (by decide), (by rw [show pm_ga0 18 = List.replicate 400 0 from rfl, pm_enc0]; rfl)⟩
  | 55, _ => exact rfl
  | 56, _ => exact rfl
  | 57, _ => exact ⟨List.length_replicate, pm_rep_rng (by decide) (by decide), (by rw [show pm_ga0 19 = List.replicate 400 0 from rfl, pm_enc0]; rfl)⟩
  | 58, _ => exact ⟨_, rfl, rfl⟩
  | n + 59, h => omega⟩
set_option maxRecDepth 100000 in
theorem pm_IM0 : pm_IM pm_gi0 pm_ga0 pm_w2 := ⟨rfl, fun k h1 h2 => by
  obtain ⟨j, rfl⟩ : ∃ j, k = 59 + j := ⟨k - 59, by omega⟩
  match j, h1, h2 with
  | 0, _, _ => exact ⟨0, 0, 0, 0, 0, 0, 0, 0, by decide, ⟨by decide, by decide⟩, ⟨by decide, by decide⟩, ⟨by decide, by decide⟩, ⟨by decide, by decide⟩, rfl⟩
  | 1, _, _ => exact ⟨List.length_replicate, pm_rep_rng (by decide) (by decide), rfl⟩
  | 2, _, _ => exact ⟨_, rfl, rfl⟩
  | 3, _, _ => exact ⟨_, rfl, rfl⟩
  | 4, _, _ => exact ⟨_, rfl, rfl⟩
  | 5, _, _ => exact rfl
  | 6, _, _ => exact rfl
  | 7, _, _ => exact rfl
  | 8, _, _ => exact rfl
  | 9, _, _ => exact rfl
  | 10, _, _ => exact rfl
  | 11, _, _ => exact rfl
  | 12, _, _ => exact rfl
  | 13, _, _ => exact rfl
  | 14, _, _ => exact rfl
  | 15, _, _ => exact rfl
  | 16, _, _ => exact rfl
  | 17, _, _ => exact ⟨_, rfl, (by decide), rfl⟩
  | 18, _, _ => exact ⟨_, rfl, (by decide), rfl⟩
  | 19, _, _ => exact ⟨List.length_replicate, pm_rep_rng (by decide) (by decide), rfl⟩
  | 20, _, _ => exact ⟨_, rfl, rfl⟩
  | 21, _, _ => exact ⟨_, rfl, pm_rep_rng (by decide) (by decide), rfl⟩
  | 22, _, _ => exact ⟨_, rfl, pm_rep_rng (by decide) (by decide), rfl⟩
  | 23, _, _ => exact ⟨_, rfl, rfl⟩
  | 24, _, _ => exact ⟨_, rfl, rfl⟩
  | 25, _, _ => exact ⟨_, rfl, rfl⟩
  | 26, _, _ => exact ⟨_, rfl, pm_rep_rng (by decide) (by decide), rfl⟩
  | 27, _, _ => exact ⟨_, rfl, pm_rep_rng (by decide) (by decide), rfl⟩
  | 28, _, _ => exact ⟨_, rfl, pm_rep_rng (by decide) (by decide), rfl⟩
  | n + 29, _, h => omega, ⟨_, _, rfl, rfl, rfl, rfl, by decide⟩⟩

