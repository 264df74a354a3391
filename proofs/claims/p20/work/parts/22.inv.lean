def pm_rng (x : Int32) (a b : Int) : Prop := a ≤ x.toInt ∧ x.toInt ≤ b
def pm_cell (gi : Nat → Int32) (ga : Nat → List Int32) (k : Nat) (o : Option pm_C) : Prop := match k with
  | 0 => ∃ (v6 : Int32), ((v6 = 0 ∨ v6 = 1) ∧ v6 = gi 9) ∧ o = some (.inr (11, [.ref 1, .ref 3, .ref 5, .ref 10, .int (gi 2), .ref 14, .int v6, .ref 16, .ref 20, .ref 27, .ref 32, .ref 37, .ref 41, .ref 45, .ref 58]))
  | 1 => o = some (.inr (10, [.int (gi 0), .int (gi 1), .ref 2]))
  | 2 => (ga 15).length = 400 ∧ (∀ x ∈ ga 15, pm_rng x 0 3) ∧ o = some (.inl (2, .inr (.inl (pm_enc (ga 15)))))
  | 3 => ∃ (v0 : Int32), pm_rng v0 0 20 ∧ o = some (.inr (8, [.int v0, .ref 4]))
  | 4 => ∃ (xs : List Int64), xs.length = 20 ∧ o = some (.inl (2, .inr (.inl xs)))
  | 5 => ∃ (v0 : Int32), pm_rng v0 0 20 ∧ o = some (.inr (3, [.int v0, .ref 6, .ref 8, .ref 9]))
  | 6 => ∃ (v0 : Int32), pm_rng v0 0 20 ∧ o = some (.inr (8, [.int v0, .ref 7]))
  | 7 => ∃ (xs : List Int64), xs.length = 20 ∧ o = some (.inl (2, .inr (.inl xs)))
  | 8 => ∃ (xs : List Int32), xs.length = 20 ∧ (∀ x ∈ xs, pm_rng x (0) 19) ∧ o = some (.inl (0, .inl xs))
  | 9 => ∃ (xs : List Int32), xs.length = 20 ∧ (∀ x ∈ xs, pm_rng x (0) 19) ∧ o = some (.inl (0, .inl xs))
  | 10 => ∃ (v0 : Int32) (v1 : Int32) (v2 : Int32), pm_rng v0 1 20 ∧ pm_rng v1 0 20 ∧ (v2 = 0 ∨ v2 = 1) ∧ o = some (.inr (6, [.int v0, .int v1, .int v2, .ref 11, .ref 12, .ref 13]))
  | 11 => ∃ (xs : List Int32), xs.length = 20 ∧ o = some (.inl (0, .inl xs))
  | 12 => ∃ (xs : List Int32), xs.length = 20 ∧ (∀ x ∈ xs, pm_rng x (0) 20) ∧ o = some (.inl (0, .inl xs))
  | 13 => ∃ (xs : List Int32), xs.length = 21 ∧ o = some (.inl (0, .inl xs))
  | 14 => ∃ (v0 : Int32) (v1 : Int32), (pm_rng v0 1 20 ∧ v0 = gi 10) ∧ (pm_rng v1 1 20 ∧ v1 = gi 11) ∧ o = some (.inr (10, [.int v0, .int v1, .ref 15]))
  | 15 => ∃ (xs : List Int64), xs.length = 20 ∧ (xs = pm_enc (ga 24) ∧ (ga 24).length = 400 ∧ ∀ x ∈ ga 24, pm_rng x 0 3) ∧ o = some (.inl (2, .inr (.inl xs)))
  | 16 => o = some (.inr (5, [.ref 17, .ref 18, .ref 19]))
  | 17 => ∃ (xs : List Int32), xs.length = 4 ∧ (∀ x ∈ xs, pm_rng x (0) 1) ∧ xs = ga 21 ∧ o = some (.inl (1, .inl xs))
  | 18 => ∃ (xs : List Int32), xs.length = 4 ∧ xs = ga 22 ∧ o = some (.inl (0, .inl xs))
  | 19 => ∃ (xs : List Int32), xs.length = 4 ∧ xs = ga 23 ∧ o = some (.inl (0, .inl xs))
  | 20 => ∃ (v0 : Int32) (v1 : Int32) (v2 : Int32), o = some (.inr (4, [.int v0, .int v1, .int v2, .ref 21, .ref 25]))
  | 21 => o = some (.inr (5, [.ref 22, .ref 23, .ref 24]))
  | 22 => ∃ (xs : List Int32), xs.length = 4 ∧ (∀ x ∈ xs, pm_rng x (0) 1) ∧ o = some (.inl (1, .inl xs))
  | 23 => ∃ (xs : List Int32), xs.length = 4 ∧ o = some (.inl (0, .inl xs))
  | 24 => ∃ (xs : List Int32), xs.length = 4 ∧ o = some (.inl (0, .inl xs))
  | 25 => ∃ (v0 : Int32), pm_rng v0 0 20 ∧ o = some (.inr (8, [.int v0, .ref 26]))
  | 26 => ∃ (xs : List Int64), xs.length = 20 ∧ o = some (.inl (2, .inr (.inl xs)))
  | 27 => o = some (.inr (9, [.int (gi 3), .int (gi 4), .int (gi 5), .int (gi 6), .int (gi 7), .ref 28, .ref 29, .ref 30, .ref 31]))
  | 28 => o = some (.inl (0, .inl (ga 0)))
  | 29 => o = some (.inl (0, .inl (ga 1)))
  | 30 => o = some (.inl (0, .inl (ga 2)))
  | 31 => o = some (.inl (0, .inl (ga 3)))
  | 32 => ∃ (v0 : Int32) (v1 : Int32) (v2 : Int32), (v0 = 0 ∨ v0 = 1) ∧ pm_rng v2 0 7 ∧ o = some (.inr (2, [.int v0, .int v1, .int v2, .ref 33, .ref 34, .ref 35, .ref 36]))
  | 33 => ∃ (xs : List Int32), xs.length = 7 ∧ (∀ x ∈ xs, pm_rng x (0) 11) ∧ o = some (.inl (0, .inl xs))
  | 34 => ∃ (xs : List Int32), xs.length = 7 ∧ (∀ x ∈ xs, pm_rng x (0) 11) ∧ o = some (.inl (0, .inl xs))
  | 35 => ∃ (xs : List Int32), xs.length = 7 ∧ (∀ x ∈ xs, pm_rng x (0) 11) ∧ o = some (.inl (0, .inl xs))
  | 36 => ∃ (xs : List Int32), xs.length = 7 ∧ (∀ x ∈ xs, pm_rng x (0) 1) ∧ o = some (.inl (1, .inl xs))
  | 37 => o = some (.inr (7, [.int (gi 8), .ref 38, .ref 39, .ref 40]))
  | 38 => o = some (.inl (0, .inl (ga 4)))
  | 39 => o = some (.inl (0, .inl (ga 5)))
  | 40 => o = some (.inl (0, .inl (ga 6)))
  | 41 => o = some (.inr (0, [.ref 42, .ref 43, .ref 44]))
  | 42 => o = some (.inl (0, .inl (ga 9)))
  | 43 => o = some (.inl (0, .inl (ga 10)))
  | 44 => o = some (.inl (0, .inl (ga 11)))
  | 45 => o = some (.inl (3, .inr (.inr [some 46, some 49, some 52, some 55])))
  | 46 => o = some (.inr (1, [.int ((ga 7).getD 0 0), .int ((ga 8).getD 0 0), .ref 47]))
  | 47 => o = some (.inr (10, [.int ((ga 13).getD 0 0), .int ((ga 14).getD 0 0), .ref 48]))
  | 48 => (ga 16).length = 400 ∧ (∀ x ∈ ga 16, pm_rng x 0 3) ∧ o = some (.inl (2, .inr (.inl (pm_enc (ga 16)))))
  | 49 => o = some (.inr (1, [.int ((ga 7).getD 1 0), .int ((ga 8).getD 1 0), .ref 50]))
  | 50 => o = some (.inr (10, [.int ((ga 13).getD 1 0), .int ((ga 14).getD 1 0), .ref 51]))
  | 51 => (ga 17).length = 400 ∧ (∀ x ∈ ga 17, pm_rng x 0 3) ∧ o = some (.inl (2, .inr (.inl (pm_enc (ga 17)))))
  | 52 => o = some (.inr (1, [.int ((ga 7).getD 2 0), .int ((ga 8).getD 2 0), .ref 53]))
  | 53 => o = some (.inr (10, [.int ((ga 13).getD 2 0), .int ((ga 14).getD 2 0), .ref 54]))
  | 54 => (ga 18).length = 400 ∧ (∀ x ∈ ga 18, pm_rng x 0 3) ∧ o = some (.inl (2, .inr (.inl (pm_enc (ga 18)))))
  | 55 => o = some (.inr (1, [.int ((ga 7).getD 3 0), .int ((ga 8).getD 3 0), .ref 56]))
  | 56 => o = some (.inr (10, [.int ((ga 13).getD 3 0), .int ((ga 14).getD 3 0), .ref 57]))
  | 57 => (ga 19).length = 400 ∧ (∀ x ∈ ga 19, pm_rng x 0 3) ∧ o = some (.inl (2, .inr (.inl (pm_enc (ga 19)))))
  | 58 => ∃ (xs : List Int32), xs.length = 7 ∧ o = some (.inl (0, .inl xs))
  | 59 => ∃ (v4 : Int32) (v5 : Int32) (v6 : Int32) (v14 : Int32) (v35 : Int32) (v39 : Int32) (v40 : Int32) (v42 : Int32), ((v4 = 0 ∨ v4 = 1) ∧ v4 = gi 9) ∧ (pm_rng v5 0 20 ∧ v5 = gi 12) ∧ (pm_rng v6 0 20 ∧ v6 = gi 13) ∧ pm_rng v35 0 20 ∧ pm_rng v42 0 12 ∧ o = some (.inr (12, [.int (gi 0), .int (gi 1), .ref 60, .int (gi 2), .int v4, .int v5, .int v6, .ref 61, .ref 62, .ref 63, .int (gi 5), .int (gi 3), .int (gi 4), .int (gi 6), .int v14, .int (gi 7), .ref 64, .ref 65, .ref 66, .ref 67, .int (gi 8), .ref 68, .ref 69, .ref 70, .ref 71, .ref 72, .ref 73, .ref 74, .ref 75, .ref 76, .ref 77, .ref 78, .ref 79, .ref 80, .ref 81, .int v35, .ref 82, .ref 83, .ref 84, .int v39, .int v40, .ref 85, .int v42, .ref 86, .ref 87]))
  | 60 => (ga 15).length = 400 ∧ (∀ x ∈ ga 15, pm_rng x 0 3) ∧ o = some (.inl (0, .inl (ga 15)))
  | 61 => ∃ (xs : List Int32), xs.length = 400 ∧ xs = ga 27 ∧ o = some (.inl (0, .inl xs))
  | 62 => ∃ (xs : List Int32), xs.length = 4 ∧ xs = ga 25 ∧ o = some (.inl (0, .inl xs))
  | 63 => ∃ (xs : List Int32), xs.length = 4 ∧ xs = ga 26 ∧ o = some (.inl (0, .inl xs))
  | 64 => o = some (.inl (0, .inl (ga 0)))
  | 65 => o = some (.inl (0, .inl (ga 1)))
  | 66 => o = some (.inl (0, .inl (ga 2)))
  | 67 => o = some (.inl (0, .inl (ga 3)))
  | 68 => o = some (.inl (0, .inl (ga 4)))
  | 69 => o = some (.inl (0, .inl (ga 5)))
  | 70 => o = some (.inl (0, .inl (ga 6)))
  | 71 => o = some (.inl (0, .inl (ga 9)))
  | 72 => o = some (.inl (0, .inl (ga 10)))
  | 73 => o = some (.inl (0, .inl (ga 11)))
  | 74 => o = some (.inl (0, .inl (ga 7)))
  | 75 => o = some (.inl (0, .inl (ga 8)))
  | 76 => ∃ (xs : List Int32), xs.length = 4 ∧ (∀ b, b < 4 → (ga 7).getD b 0 = 2 → xs.getD b 0 = (ga 13).getD b 0) ∧ o = some (.inl (0, .inl xs))
  | 77 => ∃ (xs : List Int32), xs.length = 4 ∧ (∀ b, b < 4 → (ga 7).getD b 0 = 2 → xs.getD b 0 = (ga 14).getD b 0) ∧ o = some (.inl (0, .inl xs))
  | 78 => (ga 20).length = 1600 ∧ (∀ x ∈ ga 20, pm_rng x 0 3) ∧ o = some (.inl (0, .inl (ga 20)))
  | 79 => ∃ (xs : List Int32), xs.length = 7 ∧ o = some (.inl (0, .inl xs))
  | 80 => ∃ (xs : List Int32), xs.length = 20 ∧ (∀ x ∈ xs, pm_rng x (-1) 19) ∧ o = some (.inl (0, .inl xs))
  | 81 => ∃ (xs : List Int32), xs.length = 20 ∧ (∀ x ∈ xs, pm_rng x (0) 19) ∧ o = some (.inl (0, .inl xs))
  | 82 => ∃ (xs : List Int32), xs.length = 21 ∧ o = some (.inl (0, .inl xs))
  | 83 => ∃ (xs : List Int32), xs.length = 21 ∧ o = some (.inl (0, .inl xs))
  | 84 => ∃ (xs : List Int32), xs.length = 400 ∧ o = some (.inl (0, .inl xs))
  | 85 => ∃ (xs : List Int32), xs.length = 7 ∧ (∀ x ∈ xs, pm_rng x (0) 11) ∧ o = some (.inl (0, .inl xs))
  | 86 => ∃ (xs : List Int32), xs.length = 7 ∧ (∀ x ∈ xs, pm_rng x (0) 11) ∧ o = some (.inl (0, .inl xs))
  | 87 => ∃ (xs : List Int32), xs.length = 7 ∧ (∀ x ∈ xs, pm_rng x (0) 11) ∧ o = some (.inl (0, .inl xs))
  | _ => True
/-- ranges of what both sides share -/
def pm_Rg (gi : Nat → Int32) (ga : Nat → List Int32) : Prop := pm_rng (gi 0) 1 20 ∧ pm_rng (gi 1) 1 20 ∧ pm_rng (gi 2) 1 20 ∧ pm_rng (gi 3) 1 20 ∧ pm_rng (gi 4) 0 20 ∧ pm_rng (gi 5) 0 3000 ∧ pm_rng (gi 6) (-9) 5 ∧ pm_rng (gi 7) 0 12 ∧ pm_rng (gi 8) 0 20 ∧
  ((ga 0).length = 12 ∧ (ga 1).length = 12 ∧ (ga 2).length = 12 ∧ (ga 3).length = 12 ∧ (ga 4).length = 20 ∧ (ga 5).length = 20 ∧ (ga 6).length = 20 ∧ (ga 7).length = 4 ∧ (ga 8).length = 4 ∧ (ga 9).length = 6 ∧ (ga 10).length = 6 ∧ (ga 11).length = 6 ∧ (ga 12).length = 7 ∧ (ga 13).length = 4 ∧ (ga 14).length = 4) ∧
  (∀ x ∈ ga 0, pm_rng x 0 99) ∧ (∀ x ∈ ga 1, pm_rng x 0 5) ∧ (∀ x ∈ ga 2, pm_rng x 0 2000) ∧ (∀ x ∈ ga 3, pm_rng x (-9) 3000) ∧ (∀ x ∈ ga 4, pm_rng x 0 200) ∧ (∀ x ∈ ga 5, pm_rng x 0 999) ∧ (∀ x ∈ ga 6, pm_rng x 0 3000) ∧ (∀ x ∈ ga 7, pm_rng x 0 2) ∧ (∀ x ∈ ga 8, pm_rng x 0 500) ∧ (∀ x ∈ ga 13, pm_rng x 1 20) ∧ (∀ x ∈ ga 14, pm_rng x 1 20)
def pm_IX (gi : Nat → Int32) (ga : Nat → List Int32) (w : pm_W) : Prop := w.length = 88 ∧ ∀ k, k < 59 → pm_cell gi ga k w[k]?
/-- the reference's faults: a crossing has both its cords -/
def pm_FM (w : pm_W) : Prop := ∃ fA fB : List Int32, w[62]? = some (.inl (0, .inl fA)) ∧ w[63]? = some (.inl (0, .inl fB)) ∧ fA.length = 4 ∧ fB.length = 4 ∧ (0 ≤ (fA.getD 3 0).toInt → 0 ≤ (fB.getD 3 0).toInt)
def pm_IM (gi : Nat → Int32) (ga : Nat → List Int32) (w : pm_W) : Prop := w.length = 88 ∧ (∀ k, 59 ≤ k → k < 88 → pm_cell gi ga k w[k]?) ∧ pm_FM w
/-- the other side is as it was -/
def pm_hi (w w' : pm_W) : Prop := w'.length = w.length ∧ ∀ k, 59 ≤ k → w'[k]? = w[k]?
def pm_lo (w w' : pm_W) : Prop := w'.length = w.length ∧ ∀ k, k < 59 → w'[k]? = w[k]?
theorem pm_hi.rf {w : pm_W} : pm_hi w w := ⟨rfl, fun _ _ => rfl⟩
theorem pm_lo.rf {w : pm_W} : pm_lo w w := ⟨rfl, fun _ _ => rfl⟩
theorem pm_hi.tr {u v w : pm_W} (h : pm_hi u v) (g : pm_hi v w) : pm_hi u w := ⟨g.1.trans h.1, fun k hk => (g.2 k hk).trans (h.2 k hk)⟩
theorem pm_lo.tr {u v w : pm_W} (h : pm_lo u v) (g : pm_lo v w) : pm_lo u w := ⟨g.1.trans h.1, fun k hk => (g.2 k hk).trans (h.2 k hk)⟩
theorem pm_hi.set {u w : pm_W} (h : pm_hi u w) {p : Nat} (hp : p < 59) (c : pm_C) : pm_hi u (w.set p c) := ⟨by rw [List.length_set]; exact h.1, fun k hk => by rw [List.getElem?_set_ne (by omega)]; exact h.2 k hk⟩
theorem pm_lo.set {u w : pm_W} (h : pm_lo u w) {p : Nat} (hp : 59 ≤ p) (c : pm_C) : pm_lo u (w.set p c) := ⟨by rw [List.length_set]; exact h.1, fun k hk => by rw [List.getElem?_set_ne (by omega)]; exact h.2 k hk⟩
theorem pm_IX.set {gi : Nat → Int32} {ga : Nat → List Int32} {w : pm_W} (h : pm_IX gi ga w) (p : Nat) (hp : p < 59) {c : pm_C} (hc : pm_cell gi ga p (some c)) : pm_IX gi ga (w.set p c) := ⟨by rw [List.length_set]; exact h.1, fun k hk => by
  by_cases e : p = k
  · subst e
    rw [List.getElem?_set_self (by rw [h.1]; omega)]
    exact hc
  · rw [List.getElem?_set_ne e]
    exact h.2 k hk⟩
theorem pm_FM.set {w : pm_W} (h : pm_FM w) (p : Nat) (h1 : p ≠ 62) (h2 : p ≠ 63) (c : pm_C) : pm_FM (w.set p c) := by
  obtain ⟨fA, fB, g1, g2, g3⟩ := h
  exact ⟨fA, fB, by rw [List.getElem?_set_ne h1]; exact g1, by rw [List.getElem?_set_ne h2]; exact g2, g3⟩
theorem pm_IM.set {gi : Nat → Int32} {ga : Nat → List Int32} {w : pm_W} (h : pm_IM gi ga w) (p : Nat) (h1 : 59 ≤ p) (h2 : p < 88) (h3 : p ≠ 62) (h4 : p ≠ 63) {c : pm_C} (hc : pm_cell gi ga p (some c)) : pm_IM gi ga (w.set p c) := ⟨by rw [List.length_set]; exact h.1, fun k hk hk2 => by
  by_cases e : p = k
  · subst e
    rw [List.getElem?_set_self (by rw [h.1]; omega)]
    exact hc
  · rw [List.getElem?_set_ne e]
    exact h.2.1 k hk hk2, h.2.2.set p h3 h4 c⟩
theorem pm_IM.hi {gi : Nat → Int32} {ga : Nat → List Int32} {w w' : pm_W} (h : pm_IM gi ga w) (g : pm_hi w w') : pm_IM gi ga w' := ⟨g.1.trans h.1, fun k h1 h2 => by rw [g.2 k h1]; exact h.2.1 k h1 h2, by
  obtain ⟨fA, fB, g1, g2, g3⟩ := h.2.2
  exact ⟨fA, fB, by rw [g.2 62 (by omega)]; exact g1, by rw [g.2 63 (by omega)]; exact g2, g3⟩⟩
theorem pm_IX.lo {gi : Nat → Int32} {ga : Nat → List Int32} {w w' : pm_W} (h : pm_IX gi ga w) (g : pm_lo w w') : pm_IX gi ga w' := ⟨g.1.trans h.1, fun k h1 => by rw [g.2 k h1]; exact h.2 k h1⟩
/-- the reference's faults, by their names -/
theorem pm_IM.flt {gi : Nat → Int32} {ga : Nat → List Int32} {w : pm_W} (h : pm_IM gi ga w) : w[62]? = some (.inl (0, .inl (ga 25))) ∧ w[63]? = some (.inl (0, .inl (ga 26))) ∧ (ga 25).length = 4 ∧ (ga 26).length = 4 ∧ (0 ≤ ((ga 25).getD 3 0).toInt → 0 ≤ ((ga 26).getD 3 0).toInt) := by
  obtain ⟨x, lx, ex, hx⟩ := h.2.1 62 (by decide) (by decide)
  obtain ⟨y, ly, ey, hy⟩ := h.2.1 63 (by decide) (by decide)
  subst ex
  subst ey
  obtain ⟨fA, fB, g1, g2, -, -, g5⟩ := h.2.2
  have e1 := Sum.inl.inj (Prod.mk.inj (Sum.inl.inj (Option.some.inj (g1.symm.trans hx)))).2
  have e2 := Sum.inl.inj (Prod.mk.inj (Sum.inl.inj (Option.some.inj (g2.symm.trans hy)))).2
  subst e1
  subst e2
  exact ⟨hx, hy, lx, ly, g5⟩
/-- at first -/
noncomputable def pm_gi0 (k : Nat) : Int32 := match k with
  | 0 => 8 | 1 => 8 | 2 => 6 | 3 => 2 | 4 => 3 | 6 => -9 | 10 => 8 | 11 => 8 | _ => 0
noncomputable def pm_ga0 (k : Nat) : List Int32 := match k with
  | 0 => List.replicate 12 0 | 1 => List.replicate 12 0 | 2 => List.replicate 12 0 | 3 => List.replicate 12 0 | 4 => List.replicate 20 0 | 5 => List.replicate 20 0 | 6 => List.replicate 20 0 | 7 => List.replicate 4 0 | 8 => List.replicate 4 0 | 9 => List.replicate 6 0 | 10 => List.replicate 6 0 | 11 => List.replicate 6 0 | 13 => List.replicate 4 8 | 14 => List.replicate 4 8 | 15 => List.replicate 400 0 | 16 => List.replicate 400 0 | 17 => List.replicate 400 0 | 18 => List.replicate 400 0 | 19 => List.replicate 400 0 | 20 => List.replicate 1600 0 | 21 => List.replicate 4 0 | 22 => List.replicate 4 0 | 23 => List.replicate 4 0 | 24 => List.replicate 400 0 | 25 => [-1, -1, -1, -1] | 26 => [-1, -1, -1, -1] | 27 => List.replicate 400 0 | _ => List.replicate 7 0
theorem pm_rep_rng {n : Nat} {a b : Int} (h1 : a ≤ 0) (h2 : 0 ≤ b) : ∀ x ∈ List.replicate n (0 : Int32), pm_rng x a b := fun x hx => by
  rw [(List.mem_replicate.mp hx).2]
  exact ⟨h1, h2⟩
theorem pm_Rg0 : pm_Rg pm_gi0 pm_ga0 := by
  refine ⟨⟨?_, ?_⟩, ⟨?_, ?_⟩, ⟨?_, ?_⟩, ⟨?_, ?_⟩, ⟨?_, ?_⟩, ⟨?_, ?_⟩, ⟨?_, ?_⟩, ⟨?_, ?_⟩, ⟨?_, ?_⟩, ⟨rfl, rfl, rfl, rfl, rfl, rfl, rfl, rfl, rfl, rfl, rfl, rfl, rfl, rfl, rfl⟩, ?_⟩
  all_goals first | decide | skip
  refine ⟨?_, ?_, ?_, ?_, ?_, ?_, ?_, ?_, ?_, ?_, ?_⟩
  all_goals first | exact pm_rep_rng (by decide) (by decide) | (intro x hx; rw [(List.mem_replicate.mp hx).2]; exact ⟨by decide, by decide⟩)
/-- which numbers and rows a cell speaks of -/
noncomputable def pm_dI (k : Nat) : List Nat := List.getD [[2, 9], [0, 1], [], [], [], [], [], [], [], [], [], [], [], [], [10, 11], [], [], [], [], [], [], [], [], [], [], [], [], [3, 4, 5, 6, 7], [], [], [], [], [], [], [], [], [], [8], [], [], [], [], [], [], [], [], [], [], [], [], [], [], [], [], [], [], [], [], [], [0, 1, 2, 3, 4, 5, 6, 7, 8, 9, 12, 13], [], [], [], [], [], [], [], [], [], [], [], [], [], [], [], [], [], [], [], [], [], [], [], [], [], [], [], []] k []
noncomputable def pm_dA (k : Nat) : List Nat := List.getD [[], [], [15], [], [], [], [], [], [], [], [], [], [], [], [], [24], [], [21], [22], [23], [], [], [], [], [], [], [], [], [0], [1], [2], [3], [], [], [], [], [], [], [4], [5], [6], [], [9], [10], [11], [], [7, 8], [13, 14], [16], [7, 8], [13, 14], [17], [7, 8], [13, 14], [18], [7, 8], [13, 14], [19], [], [], [15], [27], [25], [26], [0], [1], [2], [3], [4], [5], [6], [9], [10], [11], [7], [8], [7, 13], [7, 14], [20], [], [], [], [], [], [], [], [], []] k []
set_option maxRecDepth 100000 in
theorem pm_ce0 {gi gi' : Nat → Int32} {ga ga' : Nat → List Int32} {o : Option pm_C} (hi : ∀ i ∈ pm_dI 0, gi' i = gi i) (ha : ∀ i ∈ pm_dA 0, ga' i = ga i) (h : pm_cell gi ga 0 o) : pm_cell gi' ga' 0 o := by
  have h : ∃ (v6 : Int32), ((v6 = 0 ∨ v6 = 1) ∧ v6 = gi 9) ∧ o = some (.inr (11, [.ref 1, .ref 3, .ref 5, .ref 10, .int (gi 2), .ref 14, .int v6, .ref 16, .ref 20, .ref 27, .ref 32, .ref 37, .ref 41, .ref 45, .ref 58])) := h
  show ∃ (v6 : Int32), ((v6 = 0 ∨ v6 = 1) ∧ v6 = gi' 9) ∧ o = some (.inr (11, [.ref 1, .ref 3, .ref 5, .ref 10, .int (gi' 2), .ref 14, .int v6, .ref 16, .ref 20, .ref 27, .ref 32, .ref 37, .ref 41, .ref 45, .ref 58]))
  rw [hi 2 (by decide), hi 9 (by decide)]
  exact h
set_option maxRecDepth 100000 in
theorem pm_ce1 {gi gi' : Nat → Int32} {ga ga' : Nat → List Int32} {o : Option pm_C} (hi : ∀ i ∈ pm_dI 1, gi' i = gi i) (ha : ∀ i ∈ pm_dA 1, ga' i = ga i) (h : pm_cell gi ga 1 o) : pm_cell gi' ga' 1 o := by
  have h : o = some (.inr (10, [.int (gi 0), .int (gi 1), .ref 2])) := h
  show o = some (.inr (10, [.int (gi' 0), .int (gi' 1), .ref 2]))
  rw [hi 0 (by decide), hi 1 (by decide)]
  exact h
set_option maxRecDepth 100000 in
theorem pm_ce2 {gi gi' : Nat → Int32} {ga ga' : Nat → List Int32} {o : Option pm_C} (hi : ∀ i ∈ pm_dI 2, gi' i = gi i) (ha : ∀ i ∈ pm_dA 2, ga' i = ga i) (h : pm_cell gi ga 2 o) : pm_cell gi' ga' 2 o := by
  have h : (ga 15).length = 400 ∧ (∀ x ∈ ga 15, pm_rng x 0 3) ∧ o = some (.inl (2, .inr (.inl (pm_enc (ga 15))))) := h
  show (ga' 15).length = 400 ∧ (∀ x ∈ ga' 15, pm_rng x 0 3) ∧ o = some (.inl (2, .inr (.inl (pm_enc (ga' 15)))))
  rw [ha 15 (by decide)]
  exact h
theorem pm_ce3 {gi gi' : Nat → Int32} {ga ga' : Nat → List Int32} {o : Option pm_C} (h : pm_cell gi ga 3 o) : pm_cell gi' ga' 3 o := by
  have h : ∃ (v0 : Int32), pm_rng v0 0 20 ∧ o = some (.inr (8, [.int v0, .ref 4])) := h
  show ∃ (v0 : Int32), pm_rng v0 0 20 ∧ o = some (.inr (8, [.int v0, .ref 4]))
  exact h
theorem pm_ce4 {gi gi' : Nat → Int32} {ga ga' : Nat → List Int32} {o : Option pm_C} (h : pm_cell gi ga 4 o) : pm_cell gi' ga' 4 o := by
  have h : ∃ (xs : List Int64), xs.length = 20 ∧ o = some (.inl (2, .inr (.inl xs))) := h
  show ∃ (xs : List Int64), xs.length = 20 ∧ o = some (.inl (2, .inr (.inl xs)))
  exact h
theorem pm_ce5 {gi gi' : Nat → Int32} {ga ga' : Nat → List Int32} {o : Option pm_C} (h : pm_cell gi ga 5 o) : pm_cell gi' ga' 5 o := by
  have h : ∃ (v0 : Int32), pm_rng v0 0 20 ∧ o = some (.inr (3, [.int v0, .ref 6, .ref 8, .ref 9])) := h
  show ∃ (v0 : Int32), pm_rng v0 0 20 ∧ o = some (.inr (3, [.int v0, .ref 6, .ref 8, .ref 9]))
  exact h
theorem pm_ce6 {gi gi' : Nat → Int32} {ga ga' : Nat → List Int32} {o : Option pm_C} (h : pm_cell gi ga 6 o) : pm_cell gi' ga' 6 o := by
  have h : ∃ (v0 : Int32), pm_rng v0 0 20 ∧ o = some (.inr (8, [.int v0, .ref 7])) := h
  show ∃ (v0 : Int32), pm_rng v0 0 20 ∧ o = some (.inr (8, [.int v0, .ref 7]))
  exact h
theorem pm_ce7 {gi gi' : Nat → Int32} {ga ga' : Nat → List Int32} {o : Option pm_C} (h : pm_cell gi ga 7 o) : pm_cell gi' ga' 7 o := by
  have h : ∃ (xs : List Int64), xs.length = 20 ∧ o = some (.inl (2, .inr (.inl xs))) := h
  show ∃ (xs : List Int64), xs.length = 20 ∧ o = some (.inl (2, .inr (.inl xs)))
  exact h
theorem pm_ce8 {gi gi' : Nat → Int32} {ga ga' : Nat → List Int32} {o : Option pm_C} (h : pm_cell gi ga 8 o) : pm_cell gi' ga' 8 o := by
  have h : ∃ (xs : List Int32), xs.length = 20 ∧ (∀ x ∈ xs, pm_rng x (0) 19) ∧ o = some (.inl (0, .inl xs)) := h
  show ∃ (xs : List Int32), xs.length = 20 ∧ (∀ x ∈ xs, pm_rng x (0) 19) ∧ o = some (.inl (0, .inl xs))
  exact h
theorem pm_ce9 {gi gi' : Nat → Int32} {ga ga' : Nat → List Int32} {o : Option pm_C} (h : pm_cell gi ga 9 o) : pm_cell gi' ga' 9 o := by
  have h : ∃ (xs : List Int32), xs.length = 20 ∧ (∀ x ∈ xs, pm_rng x (0) 19) ∧ o = some (.inl (0, .inl xs)) := h
  show ∃ (xs : List Int32), xs.length = 20 ∧ (∀ x ∈ xs, pm_rng x (0) 19) ∧ o = some (.inl (0, .inl xs))
  exact h
theorem pm_ce10 {gi gi' : Nat → Int32} {ga ga' : Nat → List Int32} {o : Option pm_C} (h : pm_cell gi ga 10 o) : pm_cell gi' ga' 10 o := by
  have h : ∃ (v0 : Int32) (v1 : Int32) (v2 : Int32), pm_rng v0 1 20 ∧ pm_rng v1 0 20 ∧ (v2 = 0 ∨ v2 = 1) ∧ o = some (.inr (6, [.int v0, .int v1, .int v2, .ref 11, .ref 12, .ref 13])) := h
  show ∃ (v0 : Int32) (v1 : Int32) (v2 : Int32), pm_rng v0 1 20 ∧ pm_rng v1 0 20 ∧ (v2 = 0 ∨ v2 = 1) ∧ o = some (.inr (6, [.int v0, .int v1, .int v2, .ref 11, .ref 12, .ref 13]))
  exact h
theorem pm_ce11 {gi gi' : Nat → Int32} {ga ga' : Nat → List Int32} {o : Option pm_C} (h : pm_cell gi ga 11 o) : pm_cell gi' ga' 11 o := by
  have h : ∃ (xs : List Int32), xs.length = 20 ∧ o = some (.inl (0, .inl xs)) := h
  show ∃ (xs : List Int32), xs.length = 20 ∧ o = some (.inl (0, .inl xs))
  exact h
theorem pm_ce12 {gi gi' : Nat → Int32} {ga ga' : Nat → List Int32} {o : Option pm_C} (h : pm_cell gi ga 12 o) : pm_cell gi' ga' 12 o := by
  have h : ∃ (xs : List Int32), xs.length = 20 ∧ (∀ x ∈ xs, pm_rng x (0) 20) ∧ o = some (.inl (0, .inl xs)) := h
  show ∃ (xs : List Int32), xs.length = 20 ∧ (∀ x ∈ xs, pm_rng x (0) 20) ∧ o = some (.inl (0, .inl xs))
  exact h
theorem pm_ce13 {gi gi' : Nat → Int32} {ga ga' : Nat → List Int32} {o : Option pm_C} (h : pm_cell gi ga 13 o) : pm_cell gi' ga' 13 o := by
  have h : ∃ (xs : List Int32), xs.length = 21 ∧ o = some (.inl (0, .inl xs)) := h
  show ∃ (xs : List Int32), xs.length = 21 ∧ o = some (.inl (0, .inl xs))
  exact h
set_option maxRecDepth 100000 in
theorem pm_ce14 {gi gi' : Nat → Int32} {ga ga' : Nat → List Int32} {o : Option pm_C} (hi : ∀ i ∈ pm_dI 14, gi' i = gi i) (ha : ∀ i ∈ pm_dA 14, ga' i = ga i) (h : pm_cell gi ga 14 o) : pm_cell gi' ga' 14 o := by
  have h : ∃ (v0 : Int32) (v1 : Int32), (pm_rng v0 1 20 ∧ v0 = gi 10) ∧ (pm_rng v1 1 20 ∧ v1 = gi 11) ∧ o = some (.inr (10, [.int v0, .int v1, .ref 15])) := h
  show ∃ (v0 : Int32) (v1 : Int32), (pm_rng v0 1 20 ∧ v0 = gi' 10) ∧ (pm_rng v1 1 20 ∧ v1 = gi' 11) ∧ o = some (.inr (10, [.int v0, .int v1, .ref 15]))
  rw [hi 10 (by decide), hi 11 (by decide)]
  exact h
set_option maxRecDepth 100000 in
theorem pm_ce15 {gi gi' : Nat → Int32} {ga ga' : Nat → List Int32} {o : Option pm_C} (hi : ∀ i ∈ pm_dI 15, gi' i = gi i) (ha : ∀ i ∈ pm_dA 15, ga' i = ga i) (h : pm_cell gi ga 15 o) : pm_cell gi' ga' 15 o := by
  have h : ∃ (xs : List Int64), xs.length = 20 ∧ (xs = pm_enc (ga 24) ∧ (ga 24).length = 400 ∧ ∀ x ∈ ga 24, pm_rng x 0 3) ∧ o = some (.inl (2, .inr (.inl xs))) := h
  show ∃ (xs : List Int64), xs.length = 20 ∧ (xs = pm_enc (ga' 24) ∧ (ga' 24).length = 400 ∧ ∀ x ∈ ga' 24, pm_rng x 0 3) ∧ o = some (.inl (2, .inr (.inl xs)))
  rw [ha 24 (by decide)]
  exact h
theorem pm_ce16 {gi gi' : Nat → Int32} {ga ga' : Nat → List Int32} {o : Option pm_C} (h : pm_cell gi ga 16 o) : pm_cell gi' ga' 16 o := by
  have h : o = some (.inr (5, [.ref 17, .ref 18, .ref 19])) := h
  show o = some (.inr (5, [.ref 17, .ref 18, .ref 19]))
  exact h
set_option maxRecDepth 100000 in
theorem pm_ce17 {gi gi' : Nat → Int32} {ga ga' : Nat → List Int32} {o : Option pm_C} (hi : ∀ i ∈ pm_dI 17, gi' i = gi i) (ha : ∀ i ∈ pm_dA 17, ga' i = ga i) (h : pm_cell gi ga 17 o) : pm_cell gi' ga' 17 o := by
  have h : ∃ (xs : List Int32), xs.length = 4 ∧ (∀ x ∈ xs, pm_rng x (0) 1) ∧ xs = ga 21 ∧ o = some (.inl (1, .inl xs)) := h
  show ∃ (xs : List Int32), xs.length = 4 ∧ (∀ x ∈ xs, pm_rng x (0) 1) ∧ xs = ga' 21 ∧ o = some (.inl (1, .inl xs))
  rw [ha 21 (by decide)]
  exact h
set_option maxRecDepth 100000 in
theorem pm_ce18 {gi gi' : Nat → Int32} {ga ga' : Nat → List Int32} {o : Option pm_C} (hi : ∀ i ∈ pm_dI 18, gi' i = gi i) (ha : ∀ i ∈ pm_dA 18, ga' i = ga i) (h : pm_cell gi ga 18 o) : pm_cell gi' ga' 18 o := by
  have h : ∃ (xs : List Int32), xs.length = 4 ∧ xs = ga 22 ∧ o = some (.inl (0, .inl xs)) := h
  show ∃ (xs : List Int32), xs.length = 4 ∧ xs = ga' 22 ∧ o = some (.inl (0, .inl xs))
  rw [ha 22 (by decide)]
  exact h
set_option maxRecDepth 100000 in
theorem pm_ce19 {gi gi' : Nat → Int32} {ga ga' : Nat → List Int32} {o : Option pm_C} (hi : ∀ i ∈ pm_dI 19, gi' i = gi i) (ha : ∀ i ∈ pm_dA 19, ga' i = ga i) (h : pm_cell gi ga 19 o) : pm_cell gi' ga' 19 o := by
  have h : ∃ (xs : List Int32), xs.length = 4 ∧ xs = ga 23 ∧ o = some (.inl (0, .inl xs)) := h
  show ∃ (xs : List Int32), xs.length = 4 ∧ xs = ga' 23 ∧ o = some (.inl (0, .inl xs))
  rw [ha 23 (by decide)]
  exact h
theorem pm_ce20 {gi gi' : Nat → Int32} {ga ga' : Nat → List Int32} {o : Option pm_C} (h : pm_cell gi ga 20 o) : pm_cell gi' ga' 20 o := by
  have h : ∃ (v0 : Int32) (v1 : Int32) (v2 : Int32), o = some (.inr (4, [.int v0, .int v1, .int v2, .ref 21, .ref 25])) := h
  show ∃ (v0 : Int32) (v1 : Int32) (v2 : Int32), o = some (.inr (4, [.int v0, .int v1, .int v2, .ref 21, .ref 25]))
  exact h
theorem pm_ce21 {gi gi' : Nat → Int32} {ga ga' : Nat → List Int32} {o : Option pm_C} (h : pm_cell gi ga 21 o) : pm_cell gi' ga' 21 o := by
  have h : o = some (.inr (5, [.ref 22, .ref 23, .ref 24])) := h
  show o = some (.inr (5, [.ref 22, .ref 23, .ref 24]))
  exact h
theorem pm_ce22 {gi gi' : Nat → Int32} {ga ga' : Nat → List Int32} {o : Option pm_C} (h : pm_cell gi ga 22 o) : pm_cell gi' ga' 22 o := by
  have h : ∃ (xs : List Int32), xs.length = 4 ∧ (∀ x ∈ xs, pm_rng x (0) 1) ∧ o = some (.inl (1, .inl xs)) := h
  show ∃ (xs : List Int32), xs.length = 4 ∧ (∀ x ∈ xs, pm_rng x (0) 1) ∧ o = some (.inl (1, .inl xs))
  exact h
theorem pm_ce23 {gi gi' : Nat → Int32} {ga ga' : Nat → List Int32} {o : Option pm_C} (h : pm_cell gi ga 23 o) : pm_cell gi' ga' 23 o := by
  have h : ∃ (xs : List Int32), xs.length = 4 ∧ o = some (.inl (0, .inl xs)) := h
  show ∃ (xs : List Int32), xs.length = 4 ∧ o = some (.inl (0, .inl xs))
  exact h
theorem pm_ce24 {gi gi' : Nat → Int32} {ga ga' : Nat → List Int32} {o : Option pm_C} (h : pm_cell gi ga 24 o) : pm_cell gi' ga' 24 o := by
  have h : ∃ (xs : List Int32), xs.length = 4 ∧ o = some (.inl (0, .inl xs)) := h
  show ∃ (xs : List Int32), xs.length = 4 ∧ o = some (.inl (0, .inl xs))
  exact h
theorem pm_ce25 {gi gi' : Nat → Int32} {ga ga' : Nat → List Int32} {o : Option pm_C} (h : pm_cell gi ga 25 o) : pm_cell gi' ga' 25 o := by
  have h : ∃ (v0 : Int32), pm_rng v0 0 20 ∧ o = some (.inr (8, [.int v0, .ref 26])) := h
  show ∃ (v0 : Int32), pm_rng v0 0 20 ∧ o = some (.inr (8, [.int v0, .ref 26]))
  exact h
theorem pm_ce26 {gi gi' : Nat → Int32} {ga ga' : Nat → List Int32} {o : Option pm_C} (h : pm_cell gi ga 26 o) : pm_cell gi' ga' 26 o := by
  have h : ∃ (xs : List Int64), xs.length = 20 ∧ o = some (.inl (2, .inr (.inl xs))) := h
  show ∃ (xs : List Int64), xs.length = 20 ∧ o = some (.inl (2, .inr (.inl xs)))
  exact h
set_option maxRecDepth 100000 in
theorem pm_ce27 {gi gi' : Nat → Int32} {ga ga' : Nat → List Int32} {o : Option pm_C} (hi : ∀ i ∈ pm_dI 27, gi' i = gi i) (ha : ∀ i ∈ pm_dA 27, ga' i = ga i) (h : pm_cell gi ga 27 o) : pm_cell gi' ga' 27 o := by
  have h : o = some (.inr (9, [.int (gi 3), .int (gi 4), .int (gi 5), .int (gi 6), .int (gi 7), .ref 28, .ref 29, .ref 30, .ref 31])) := h
  show o = some (.inr (9, [.int (gi' 3), .int (gi' 4), .int (gi' 5), .int (gi' 6), .int (gi' 7), .ref 28, .ref 29, .ref 30, .ref 31]))
  rw [hi 3 (by decide), hi 4 (by decide), hi 5 (by decide), hi 6 (by decide), hi 7 (by decide)]
  exact h
set_option maxRecDepth 100000 in
theorem pm_ce28 {gi gi' : Nat → Int32} {ga ga' : Nat → List Int32} {o : Option pm_C} (hi : ∀ i ∈ pm_dI 28, gi' i = gi i) (ha : ∀ i ∈ pm_dA 28, ga' i = ga i) (h : pm_cell gi ga 28 o) : pm_cell gi' ga' 28 o := by
  have h : o = some (.inl (0, .inl (ga 0))) := h
  show o = some (.inl (0, .inl (ga' 0)))
  rw [ha 0 (by decide)]
  exact h
set_option maxRecDepth 100000 in
theorem pm_ce29 {gi gi' : Nat → Int32} {ga ga' : Nat → List Int32} {o : Option pm_C} (hi : ∀ i ∈ pm_dI 29, gi' i = gi i) (ha : ∀ i ∈ pm_dA 29, ga' i = ga i) (h : pm_cell gi ga 29 o) : pm_cell gi' ga' 29 o := by
  have h : o = some (.inl (0, .inl (ga 1))) := h
  show o = some (.inl (0, .inl (ga' 1)))
  rw [ha 1 (by decide)]
  exact h
set_option maxRecDepth 100000 in
theorem pm_ce30 {gi gi' : Nat → Int32} {ga ga' : Nat → List Int32} {o : Option pm_C} (hi : ∀ i ∈ pm_dI 30, gi' i = gi i) (ha : ∀ i ∈ pm_dA 30, ga' i = ga i) (h : pm_cell gi ga 30 o) : pm_cell gi' ga' 30 o := by
  have h : o = some (.inl (0, .inl (ga 2))) := h
  show o = some (.inl (0, .inl (ga' 2)))
  rw [ha 2 (by decide)]
  exact h
set_option maxRecDepth 100000 in
theorem pm_ce31 {gi gi' : Nat → Int32} {ga ga' : Nat → List Int32} {o : Option pm_C} (hi : ∀ i ∈ pm_dI 31, gi' i = gi i) (ha : ∀ i ∈ pm_dA 31, ga' i = ga i) (h : pm_cell gi ga 31 o) : pm_cell gi' ga' 31 o := by
  have h : o = some (.inl (0, .inl (ga 3))) := h
  show o = some (.inl (0, .inl (ga' 3)))
  rw [ha 3 (by decide)]
  exact h
theorem pm_ce32 {gi gi' : Nat → Int32} {ga ga' : Nat → List Int32} {o : Option pm_C} (h : pm_cell gi ga 32 o) : pm_cell gi' ga' 32 o := by
  have h : ∃ (v0 : Int32) (v1 : Int32) (v2 : Int32), (v0 = 0 ∨ v0 = 1) ∧ pm_rng v2 0 7 ∧ o = some (.inr (2, [.int v0, .int v1, .int v2, .ref 33, .ref 34, .ref 35, .ref 36])) := h
  show ∃ (v0 : Int32) (v1 : Int32) (v2 : Int32), (v0 = 0 ∨ v0 = 1) ∧ pm_rng v2 0 7 ∧ o = some (.inr (2, [.int v0, .int v1, .int v2, .ref 33, .ref 34, .ref 35, .ref 36]))
  exact h
theorem pm_ce33 {gi gi' : Nat → Int32} {ga ga' : Nat → List Int32} {o : Option pm_C} (h : pm_cell gi ga 33 o) : pm_cell gi' ga' 33 o := by
  have h : ∃ (xs : List Int32), xs.length = 7 ∧ (∀ x ∈ xs, pm_rng x (0) 11) ∧ o = some (.inl (0, .inl xs)) := h
  show ∃ (xs : List Int32), xs.length = 7 ∧ (∀ x ∈ xs, pm_rng x (0) 11) ∧ o = some (.inl (0, .inl xs))
  exact h
theorem pm_ce34 {gi gi' : Nat → Int32} {ga ga' : Nat → List Int32} {o : Option pm_C} (h : pm_cell gi ga 34 o) : pm_cell gi' ga' 34 o := by
  have h : ∃ (xs : List Int32), xs.length = 7 ∧ (∀ x ∈ xs, pm_rng x (0) 11) ∧ o = some (.inl (0, .inl xs)) := h
  show ∃ (xs : List Int32), xs.length = 7 ∧ (∀ x ∈ xs, pm_rng x (0) 11) ∧ o = some (.inl (0, .inl xs))
  exact h
theorem pm_ce35 {gi gi' : Nat → Int32} {ga ga' : Nat → List Int32} {o : Option pm_C} (h : pm_cell gi ga 35 o) : pm_cell gi' ga' 35 o := by
  have h : ∃ (xs : List Int32), xs.length = 7 ∧ (∀ x ∈ xs, pm_rng x (0) 11) ∧ o = some (.inl (0, .inl xs)) := h
  show ∃ (xs : List Int32), xs.length = 7 ∧ (∀ x ∈ xs, pm_rng x (0) 11) ∧ o = some (.inl (0, .inl xs))
  exact h
theorem pm_ce36 {gi gi' : Nat → Int32} {ga ga' : Nat → List Int32} {o : Option pm_C} (h : pm_cell gi ga 36 o) : pm_cell gi' ga' 36 o := by
  have h : ∃ (xs : List Int32), xs.length = 7 ∧ (∀ x ∈ xs, pm_rng x (0) 1) ∧ o = some (.inl (1, .inl xs)) := h
  show ∃ (xs : List Int32), xs.length = 7 ∧ (∀ x ∈ xs, pm_rng x (0) 1) ∧ o = some (.inl (1, .inl xs))
  exact h
set_option maxRecDepth 100000 in
theorem pm_ce37 {gi gi' : Nat → Int32} {ga ga' : Nat → List Int32} {o : Option pm_C} (hi : ∀ i ∈ pm_dI 37, gi' i = gi i) (ha : ∀ i ∈ pm_dA 37, ga' i = ga i) (h : pm_cell gi ga 37 o) : pm_cell gi' ga' 37 o := by
  have h : o = some (.inr (7, [.int (gi 8), .ref 38, .ref 39, .ref 40])) := h
  show o = some (.inr (7, [.int (gi' 8), .ref 38, .ref 39, .ref 40]))
  rw [hi 8 (by decide)]
  exact h
set_option maxRecDepth 100000 in
theorem pm_ce38 {gi gi' : Nat → Int32} {ga ga' : Nat → List Int32} {o : Option pm_C} (hi : ∀ i ∈ pm_dI 38, gi' i = gi i) (ha : ∀ i ∈ pm_dA 38, ga' i = ga i) (h : pm_cell gi ga 38 o) : pm_cell gi' ga' 38 o := by
  have h : o = some (.inl (0, .inl (ga 4))) := h
  show o = some (.inl (0, .inl (ga' 4)))
  rw [ha 4 (by decide)]
  exact h
set_option maxRecDepth 100000 in
theorem pm_ce39 {gi gi' : Nat → Int32} {ga ga' : Nat → List Int32} {o : Option pm_C} (hi : ∀ i ∈ pm_dI 39, gi' i = gi i) (ha : ∀ i ∈ pm_dA 39, ga' i = ga i) (h : pm_cell gi ga 39 o) : pm_cell gi' ga' 39 o := by
  have h : o = some (.inl (0, .inl (ga 5))) := h
  show o = some (.inl (0, .inl (ga' 5)))
  rw [ha 5 (by decide)]
  exact h
set_option maxRecDepth 100000 in
theorem pm_ce40 {gi gi' : Nat → Int32} {ga ga' : Nat → List Int32} {o : Option pm_C} (hi : ∀ i ∈ pm_dI 40, gi' i = gi i) (ha : ∀ i ∈ pm_dA 40, ga' i = ga i) (h : pm_cell gi ga 40 o) : pm_cell gi' ga' 40 o := by
  have h : o = some (.inl (0, .inl (ga 6))) := h
  show o = some (.inl (0, .inl (ga' 6)))
  rw [ha 6 (by decide)]
  exact h
theorem pm_ce41 {gi gi' : Nat → Int32} {ga ga' : Nat → List Int32} {o : Option pm_C} (h : pm_cell gi ga 41 o) : pm_cell gi' ga' 41 o := by
  have h : o = some (.inr (0, [.ref 42, .ref 43, .ref 44])) := h
  show o = some (.inr (0, [.ref 42, .ref 43, .ref 44]))
  exact h
set_option maxRecDepth 100000 in
theorem pm_ce42 {gi gi' : Nat → Int32} {ga ga' : Nat → List Int32} {o : Option pm_C} (hi : ∀ i ∈ pm_dI 42, gi' i = gi i) (ha : ∀ i ∈ pm_dA 42, ga' i = ga i) (h : pm_cell gi ga 42 o) : pm_cell gi' ga' 42 o := by
  have h : o = some (.inl (0, .inl (ga 9))) := h
  show o = some (.inl (0, .inl (ga' 9)))
  rw [ha 9 (by decide)]
  exact h
set_option maxRecDepth 100000 in
theorem pm_ce43 {gi gi' : Nat → Int32} {ga ga' : Nat → List Int32} {o : Option pm_C} (hi : ∀ i ∈ pm_dI 43, gi' i = gi i) (ha : ∀ i ∈ pm_dA 43, ga' i = ga i) (h : pm_cell gi ga 43 o) : pm_cell gi' ga' 43 o := by
  have h : o = some (.inl (0, .inl (ga 10))) := h
  show o = some (.inl (0, .inl (ga' 10)))
  rw [ha 10 (by decide)]
  exact h
set_option maxRecDepth 100000 in
theorem pm_ce44 {gi gi' : Nat → Int32} {ga ga' : Nat → List Int32} {o : Option pm_C} (hi : ∀ i ∈ pm_dI 44, gi' i = gi i) (ha : ∀ i ∈ pm_dA 44, ga' i = ga i) (h : pm_cell gi ga 44 o) : pm_cell gi' ga' 44 o := by
  have h : o = some (.inl (0, .inl (ga 11))) := h
  show o = some (.inl (0, .inl (ga' 11)))
  rw [ha 11 (by decide)]
  exact h
theorem pm_ce45 {gi gi' : Nat → Int32} {ga ga' : Nat → List Int32} {o : Option pm_C} (h : pm_cell gi ga 45 o) : pm_cell gi' ga' 45 o := by
  have h : o = some (.inl (3, .inr (.inr [some 46, some 49, some 52, some 55]))) := h
  show o = some (.inl (3, .inr (.inr [some 46, some 49, some 52, some 55])))
  exact h
set_option maxRecDepth 100000 in
theorem pm_ce46 {gi gi' : Nat → Int32} {ga ga' : Nat → List Int32} {o : Option pm_C} (hi : ∀ i ∈ pm_dI 46, gi' i = gi i) (ha : ∀ i ∈ pm_dA 46, ga' i = ga i) (h : pm_cell gi ga 46 o) : pm_cell gi' ga' 46 o := by
  have h : o = some (.inr (1, [.int ((ga 7).getD 0 0), .int ((ga 8).getD 0 0), .ref 47])) := h
  show o = some (.inr (1, [.int ((ga' 7).getD 0 0), .int ((ga' 8).getD 0 0), .ref 47]))
  rw [ha 7 (by decide), ha 8 (by decide)]
  exact h
set_option maxRecDepth 100000 in
theorem pm_ce47 {gi gi' : Nat → Int32} {ga ga' : Nat → List Int32} {o : Option pm_C} (hi : ∀ i ∈ pm_dI 47, gi' i = gi i) (ha : ∀ i ∈ pm_dA 47, ga' i = ga i) (h : pm_cell gi ga 47 o) : pm_cell gi' ga' 47 o := by
  have h : o = some (.inr (10, [.int ((ga 13).getD 0 0), .int ((ga 14).getD 0 0), .ref 48])) := h
  show o = some (.inr (10, [.int ((ga' 13).getD 0 0), .int ((ga' 14).getD 0 0), .ref 48]))
  rw [ha 13 (by decide), ha 14 (by decide)]
  exact h
set_option maxRecDepth 100000 in
theorem pm_ce48 {gi gi' : Nat → Int32} {ga ga' : Nat → List Int32} {o : Option pm_C} (hi : ∀ i ∈ pm_dI 48, gi' i = gi i) (ha : ∀ i ∈ pm_dA 48, ga' i = ga i) (h : pm_cell gi ga 48 o) : pm_cell gi' ga' 48 o := by
  have h : (ga 16).length = 400 ∧ (∀ x ∈ ga 16, pm_rng x 0 3) ∧ o = some (.inl (2, .inr (.inl (pm_enc (ga 16))))) := h
  show (ga' 16).length = 400 ∧ (∀ x ∈ ga' 16, pm_rng x 0 3) ∧ o = some (.inl (2, .inr (.inl (pm_enc (ga' 16)))))
  rw [ha 16 (by decide)]
  exact h
set_option maxRecDepth 100000 in
theorem pm_ce49 {gi gi' : Nat → Int32} {ga ga' : Nat → List Int32} {o : Option pm_C} (hi : ∀ i ∈ pm_dI 49, gi' i = gi i) (ha : ∀ i ∈ pm_dA 49, ga' i = ga i) (h : pm_cell gi ga 49 o) : pm_cell gi' ga' 49 o := by
  have h : o = some (.inr (1, [.int ((ga 7).getD 1 0), .int ((ga 8).getD 1 0), .ref 50])) := h
  show o = some (.inr (1, [.int ((ga' 7).getD 1 0), .int ((ga' 8).getD 1 0), .ref 50]))
  rw [ha 7 (by decide), ha 8 (by decide)]
  exact h
set_option maxRecDepth 100000 in
theorem pm_ce50 {gi gi' : Nat → Int32} {ga ga' : Nat → List Int32} {o : Option pm_C} (hi : ∀ i ∈ pm_dI 50, gi' i = gi i) (ha : ∀ i ∈ pm_dA 50, ga' i = ga i) (h : pm_cell gi ga 50 o) : pm_cell gi' ga' 50 o := by
  have h : o = some (.inr (10, [.int ((ga 13).getD 1 0), .int ((ga 14).getD 1 0), .ref 51])) := h
  show o = some (.inr (10, [.int ((ga' 13).getD 1 0), .int ((ga' 14).getD 1 0), .ref 51]))
  rw [ha 13 (by decide), ha 14 (by decide)]
  exact h
set_option maxRecDepth 100000 in
theorem pm_ce51 {gi gi' : Nat → Int32} {ga ga' : Nat → List Int32} {o : Option pm_C} (hi : ∀ i ∈ pm_dI 51, gi' i = gi i) (ha : ∀ i ∈ pm_dA 51, ga' i = ga i) (h : pm_cell gi ga 51 o) : pm_cell gi' ga' 51 o := by
  have h : (ga 17).length = 400 ∧ (∀ x ∈ ga 17, pm_rng x 0 3) ∧ o = some (.inl (2, .inr (.inl (pm_enc (ga 17))))) := h
  show (ga' 17).length = 400 ∧ (∀ x ∈ ga' 17, pm_rng x 0 3) ∧ o = some (.inl (2, .inr (.inl (pm_enc (ga' 17)))))
  rw [ha 17 (by decide)]
  exact h
set_option maxRecDepth 100000 in
theorem pm_ce52 {gi gi' : Nat → Int32} {ga ga' : Nat → List Int32} {o : Option pm_C} (hi : ∀ i ∈ pm_dI 52, gi' i = gi i) (ha : ∀ i ∈ pm_dA 52, ga' i = ga i) (h : pm_cell gi ga 52 o) : pm_cell gi' ga' 52 o := by
  have h : o = some (.inr (1, [.int ((ga 7).getD 2 0), .int ((ga 8).getD 2 0), .ref 53])) := h
  show o = some (.inr (1, [.int ((ga' 7).getD 2 0), .int ((ga' 8).getD 2 0), .ref 53]))
  rw [ha 7 (by decide), ha 8 (by decide)]
  exact h
set_option maxRecDepth 100000 in
theorem pm_ce53 {gi gi' : Nat → Int32} {ga ga' : Nat → List Int32} {o : Option pm_C} (hi : ∀ i ∈ pm_dI 53, gi' i = gi i) (ha : ∀ i ∈ pm_dA 53, ga' i = ga i) (h : pm_cell gi ga 53 o) : pm_cell gi' ga' 53 o := by
  have h : o = some (.inr (10, [.int ((ga 13).getD 2 0), .int ((ga 14).getD 2 0), .ref 54])) := h
  show o = some (.inr (10, [.int ((ga' 13).getD 2 0), .int ((ga' 14).getD 2 0), .ref 54]))
  rw [ha 13 (by decide), ha 14 (by decide)]
  exact h
set_option maxRecDepth 100000 in
theorem pm_ce54 {gi gi' : Nat → Int32} {ga ga' : Nat → List Int32} {o : Option pm_C} (hi : ∀ i ∈ pm_dI 54, gi' i = gi i) (ha : ∀ i ∈ pm_dA 54, ga' i = ga i) (h : pm_cell gi ga 54 o) : pm_cell gi' ga' 54 o := by
  have h : (ga 18).length = 400 ∧ (∀ x ∈ ga 18, pm_rng x 0 3) ∧ o = some (.inl (2, .inr (.inl (pm_enc (ga 18))))) := h
  show (ga' 18).length = 400 ∧ (∀ x ∈ ga' 18, pm_rng x 0 3) ∧ o = some (.inl (2, .inr (.inl (pm_enc (ga' 18)))))
  rw [ha 18 (by decide)]
  exact h
set_option maxRecDepth 100000 in
theorem pm_ce55 {gi gi' : Nat → Int32} {ga ga' : Nat → List Int32} {o : Option pm_C} (hi : ∀ i ∈ pm_dI 55, gi' i = gi i) (ha : ∀ i ∈ pm_dA 55, ga' i = ga i) (h : pm_cell gi ga 55 o) : pm_cell gi' ga' 55 o := by
  have h : o = some (.inr (1, [.int ((ga 7).getD 3 0), .int ((ga 8).getD 3 0), .ref 56])) := h
  show o = some (.inr (1, [.int ((ga' 7).getD 3 0), .int ((ga' 8).getD 3 0), .ref 56]))
  rw [ha 7 (by decide), ha 8 (by decide)]
  exact h
set_option maxRecDepth 100000 in
theorem pm_ce56 {gi gi' : Nat → Int32} {ga ga' : Nat → List Int32} {o : Option pm_C} (hi : ∀ i ∈ pm_dI 56, gi' i = gi i) (ha : ∀ i ∈ pm_dA 56, ga' i = ga i) (h : pm_cell gi ga 56 o) : pm_cell gi' ga' 56 o := by
  have h : o = some (.inr (10, [.int ((ga 13).getD 3 0), .int ((ga 14).getD 3 0), .ref 57])) := h
  show o = some (.inr (10, [.int ((ga' 13).getD 3 0), .int ((ga' 14).getD 3 0), .ref 57]))
  rw [ha 13 (by decide), ha 14 (by decide)]
  exact h
set_option maxRecDepth 100000 in
theorem pm_ce57 {gi gi' : Nat → Int32} {ga ga' : Nat → List Int32} {o : Option pm_C} (hi : ∀ i ∈ pm_dI 57, gi' i = gi i) (ha : ∀ i ∈ pm_dA 57, ga' i = ga i) (h : pm_cell gi ga 57 o) : pm_cell gi' ga' 57 o := by
  have h : (ga 19).length = 400 ∧ (∀ x ∈ ga 19, pm_rng x 0 3) ∧ o = some (.inl (2, .inr (.inl (pm_enc (ga 19))))) := h
  show (ga' 19).length = 400 ∧ (∀ x ∈ ga' 19, pm_rng x 0 3) ∧ o = some (.inl (2, .inr (.inl (pm_enc (ga' 19)))))
  rw [ha 19 (by decide)]
  exact h
theorem pm_ce58 {gi gi' : Nat → Int32} {ga ga' : Nat → List Int32} {o : Option pm_C} (h : pm_cell gi ga 58 o) : pm_cell gi' ga' 58 o := by
  have h : ∃ (xs : List Int32), xs.length = 7 ∧ o = some (.inl (0, .inl xs)) := h
  show ∃ (xs : List Int32), xs.length = 7 ∧ o = some (.inl (0, .inl xs))
  exact h
set_option maxRecDepth 100000 in
theorem pm_ce59 {gi gi' : Nat → Int32} {ga ga' : Nat → List Int32} {o : Option pm_C} (hi : ∀ i ∈ pm_dI 59, gi' i = gi i) (ha : ∀ i ∈ pm_dA 59, ga' i = ga i) (h : pm_cell gi ga 59 o) : pm_cell gi' ga' 59 o := by
  have h : ∃ (v4 : Int32) (v5 : Int32) (v6 : Int32) (v14 : Int32) (v35 : Int32) (v39 : Int32) (v40 : Int32) (v42 : Int32), ((v4 = 0 ∨ v4 = 1) ∧ v4 = gi 9) ∧ (pm_rng v5 0 20 ∧ v5 = gi 12) ∧ (pm_rng v6 0 20 ∧ v6 = gi 13) ∧ pm_rng v35 0 20 ∧ pm_rng v42 0 12 ∧ o = some (.inr (12, [.int (gi 0), .int (gi 1), .ref 60, .int (gi 2), .int v4, .int v5, .int v6, .ref 61, .ref 62, .ref 63, .int (gi 5), .int (gi 3), .int (gi 4), .int (gi 6), .int v14, .int (gi 7), .ref 64, .ref 65, .ref 66, .ref 67, .int (gi 8), .ref 68, .ref 69, .ref 70, .ref 71, .ref 72, .ref 73, .ref 74, .ref 75, .ref 76, .ref 77, .ref 78, .ref 79, .ref 80, .ref 81, .int v35, .ref 82, .ref 83, .ref 84, .int v39, .int v40, .ref 85, .int v42, .ref 86, .ref 87])) := h
  show ∃ (v4 : Int32) (v5 : Int32) (v6 : Int32) (v14 : Int32) (v35 : Int32) (v39 : Int32) (v40 : Int32) (v42 : Int32), ((v4 = 0 ∨ v4 = 1) ∧ v4 = gi' 9) ∧ (pm_rng v5 0 20 ∧ v5 = gi' 12) ∧ (pm_rng v6 0 20 ∧ v6 = gi' 13) ∧ pm_rng v35 0 20 ∧ pm_rng v42 0 12 ∧ o = some (.inr (12, [.int (gi' 0), .int (gi' 1), .ref 60, .int (gi' 2), .int v4, .int v5, .int v6, .ref 61, .ref 62, .ref 63, .int (gi' 5), .int (gi' 3), .int (gi' 4), .int (gi' 6), .int v14, .int (gi' 7), .ref 64, .ref 65, .ref 66, .ref 67, .int (gi' 8), .ref 68, .ref 69, .ref 70, .ref 71, .ref 72, .ref 73, .ref 74, .ref 75, .ref 76, .ref 77, .ref 78, .ref 79, .ref 80, .ref 81, .int v35, .ref 82, .ref 83, .ref 84, .int v39, .int v40, .ref 85, .int v42, .ref 86, .ref 87]))
  rw [hi 0 (by decide), hi 1 (by decide), hi 2 (by decide), hi 3 (by decide), hi 4 (by decide), hi 5 (by decide), hi 6 (by decide), hi 7 (by decide), hi 8 (by decide), hi 9 (by decide), hi 12 (by decide), hi 13 (by decide)]
  exact h
set_option maxRecDepth 100000 in
theorem pm_ce60 {gi gi' : Nat → Int32} {ga ga' : Nat → List Int32} {o : Option pm_C} (hi : ∀ i ∈ pm_dI 60, gi' i = gi i) (ha : ∀ i ∈ pm_dA 60, ga' i = ga i) (h : pm_cell gi ga 60 o) : pm_cell gi' ga' 60 o := by
  have h : (ga 15).length = 400 ∧ (∀ x ∈ ga 15, pm_rng x 0 3) ∧ o = some (.inl (0, .inl (ga 15))) := h
  show (ga' 15).length = 400 ∧ (∀ x ∈ ga' 15, pm_rng x 0 3) ∧ o = some (.inl (0, .inl (ga' 15)))
  rw [ha 15 (by decide)]
  exact h
set_option maxRecDepth 100000 in
theorem pm_ce61 {gi gi' : Nat → Int32} {ga ga' : Nat → List Int32} {o : Option pm_C} (hi : ∀ i ∈ pm_dI 61, gi' i = gi i) (ha : ∀ i ∈ pm_dA 61, ga' i = ga i) (h : pm_cell gi ga 61 o) : pm_cell gi' ga' 61 o := by
  have h : ∃ (xs : List Int32), xs.length = 400 ∧ xs = ga 27 ∧ o = some (.inl (0, .inl xs)) := h
  show ∃ (xs : List Int32), xs.length = 400 ∧ xs = ga' 27 ∧ o = some (.inl (0, .inl xs))
  rw [ha 27 (by decide)]
  exact h
set_option maxRecDepth 100000 in
theorem pm_ce62 {gi gi' : Nat → Int32} {ga ga' : Nat → List Int32} {o : Option pm_C} (hi : ∀ i ∈ pm_dI 62, gi' i = gi i) (ha : ∀ i ∈ pm_dA 62, ga' i = ga i) (h : pm_cell gi ga 62 o) : pm_cell gi' ga' 62 o := by
  have h : ∃ (xs : List Int32), xs.length = 4 ∧ xs = ga 25 ∧ o = some (.inl (0, .inl xs)) := h
  show ∃ (xs : List Int32), xs.length = 4 ∧ xs = ga' 25 ∧ o = some (.inl (0, .inl xs))
  rw [ha 25 (by decide)]
  exact h
set_option maxRecDepth 100000 in
theorem pm_ce63 {gi gi' : Nat → Int32} {ga ga' : Nat → List Int32} {o : Option pm_C} (hi : ∀ i ∈ pm_dI 63, gi' i = gi i) (ha : ∀ i ∈ pm_dA 63, ga' i = ga i) (h : pm_cell gi ga 63 o) : pm_cell gi' ga' 63 o := by
  have h : ∃ (xs : List Int32), xs.length = 4 ∧ xs = ga 26 ∧ o = some (.inl (0, .inl xs)) := h
  show ∃ (xs : List Int32), xs.length = 4 ∧ xs = ga' 26 ∧ o = some (.inl (0, .inl xs))
  rw [ha 26 (by decide)]
  exact h
set_option maxRecDepth 100000 in
theorem pm_ce64 {gi gi' : Nat → Int32} {ga ga' : Nat → List Int32} {o : Option pm_C} (hi : ∀ i ∈ pm_dI 64, gi' i = gi i) (ha : ∀ i ∈ pm_dA 64, ga' i = ga i) (h : pm_cell gi ga 64 o) : pm_cell gi' ga' 64 o := by
  have h : o = some (.inl (0, .inl (ga 0))) := h
  show o = some (.inl (0, .inl (ga' 0)))
  rw [ha 0 (by decide)]
  exact h
set_option maxRecDepth 100000 in
theorem pm_ce65 {gi gi' : Nat → Int32} {ga ga' : Nat → List Int32} {o : Option pm_C} (hi : ∀ i ∈ pm_dI 65, gi' i = gi i) (ha : ∀ i ∈ pm_dA 65, ga' i = ga i) (h : pm_cell gi ga 65 o) : pm_cell gi' ga' 65 o := by
  have h : o = some (.inl (0, .inl (ga 1))) := h
  show o = some (.inl (0, .inl (ga' 1)))
  rw [ha 1 (by decide)]
  exact h
set_option maxRecDepth 100000 in
theorem pm_ce66 {gi gi' : Nat → Int32} {ga ga' : Nat → List Int32} {o : Option pm_C} (hi : ∀ i ∈ pm_dI 66, gi' i = gi i) (ha : ∀ i ∈ pm_dA 66, ga' i = ga i) (h : pm_cell gi ga 66 o) : pm_cell gi' ga' 66 o := by
  have h : o = some (.inl (0, .inl (ga 2))) := h
  show o = some (.inl (0, .inl (ga' 2)))
  rw [ha 2 (by decide)]
  exact h
set_option maxRecDepth 100000 in
theorem pm_ce67 {gi gi' : Nat → Int32} {ga ga' : Nat → List Int32} {o : Option pm_C} (hi : ∀ i ∈ pm_dI 67, gi' i = gi i) (ha : ∀ i ∈ pm_dA 67, ga' i = ga i) (h : pm_cell gi ga 67 o) : pm_cell gi' ga' 67 o := by
  have h : o = some (.inl (0, .inl (ga 3))) := h
  show o = some (.inl (0, .inl (ga' 3)))
  rw [ha 3 (by decide)]
  exact h
set_option maxRecDepth 100000 in
theorem pm_ce68 {gi gi' : Nat → Int32} {ga ga' : Nat → List Int32} {o : Option pm_C} (hi : ∀ i ∈ pm_dI 68, gi' i = gi i) (ha : ∀ i ∈ pm_dA 68, ga' i = ga i) (h : pm_cell gi ga 68 o) : pm_cell gi' ga' 68 o := by
  have h : o = some (.inl (0, .inl (ga 4))) := h
  show o = some (.inl (0, .inl (ga' 4)))
  rw [ha 4 (by decide)]
  exact h
set_option maxRecDepth 100000 in
theorem pm_ce69 {gi gi' : Nat → Int32} {ga ga' : Nat → List Int32} {o : Option pm_C} (hi : ∀ i ∈ pm_dI 69, gi' i = gi i) (ha : ∀ i ∈ pm_dA 69, ga' i = ga i) (h : pm_cell gi ga 69 o) : pm_cell gi' ga' 69 o := by
  have h : o = some (.inl (0, .inl (ga 5))) := h
  show o = some (.inl (0, .inl (ga' 5)))
  rw [ha 5 (by decide)]
  exact h
set_option maxRecDepth 100000 in
theorem pm_ce70 {gi gi' : Nat → Int32} {ga ga' : Nat → List Int32} {o : Option pm_C} (hi : ∀ i ∈ pm_dI 70, gi' i = gi i) (ha : ∀ i ∈ pm_dA 70, ga' i = ga i) (h : pm_cell gi ga 70 o) : pm_cell gi' ga' 70 o := by
  have h : o = some (.inl (0, .inl (ga 6))) := h
  show o = some (.inl (0, .inl (ga' 6)))
  rw [ha 6 (by decide)]
  exact h
set_option maxRecDepth 100000 in
theorem pm_ce71 {gi gi' : Nat → Int32} {ga ga' : Nat → List Int32} {o : Option pm_C} (hi : ∀ i ∈ pm_dI 71, gi' i = gi i) (ha : ∀ i ∈ pm_dA 71, ga' i = ga i) (h : pm_cell gi ga 71 o) : pm_cell gi' ga' 71 o := by
  have h : o = some (.inl (0, .inl (ga 9))) := h
  show o = some (.inl (0, .inl (ga' 9)))
  rw [ha 9 (by decide)]
  exact h
set_option maxRecDepth 100000 in
theorem pm_ce72 {gi gi' : Nat → Int32} {ga ga' : Nat → List Int32} {o : Option pm_C} (hi : ∀ i ∈ pm_dI 72, gi' i = gi i) (ha : ∀ i ∈ pm_dA 72, ga' i = ga i) (h : pm_cell gi ga 72 o) : pm_cell gi' ga' 72 o := by
  have h : o = some (.inl (0, .inl (ga 10))) := h
  show o = some (.inl (0, .inl (ga' 10)))
  rw [ha 10 (by decide)]
  exact h
set_option maxRecDepth 100000 in
theorem pm_ce73 {gi gi' : Nat → Int32} {ga ga' : Nat → List Int32} {o : Option pm_C} (hi : ∀ i ∈ pm_dI 73, gi' i = gi i) (ha : ∀ i ∈ pm_dA 73, ga' i = ga i) (h : pm_cell gi ga 73 o) : pm_cell gi' ga' 73 o := by
  have h : o = some (.inl (0, .inl (ga 11))) := h
  show o = some (.inl (0, .inl (ga' 11)))
  rw [ha 11 (by decide)]
  exact h
set_option maxRecDepth 100000 in
theorem pm_ce74 {gi gi' : Nat → Int32} {ga ga' : Nat → List Int32} {o : Option pm_C} (hi : ∀ i ∈ pm_dI 74, gi' i = gi i) (ha : ∀ i ∈ pm_dA 74, ga' i = ga i) (h : pm_cell gi ga 74 o) : pm_cell gi' ga' 74 o := by
  have h : o = some (.inl (0, .inl (ga 7))) := h
  show o = some (.inl (0, .inl (ga' 7)))
  rw [ha 7 (by decide)]
  exact h
set_option maxRecDepth 100000 in
theorem pm_ce75 {gi gi' : Nat → Int32} {ga ga' : Nat → List Int32} {o : Option pm_C} (hi : ∀ i ∈ pm_dI 75, gi' i = gi i) (ha : ∀ i ∈ pm_dA 75, ga' i = ga i) (h : pm_cell gi ga 75 o) : pm_cell gi' ga' 75 o := by
  have h : o = some (.inl (0, .inl (ga 8))) := h
  show o = some (.inl (0, .inl (ga' 8)))
  rw [ha 8 (by decide)]
  exact h
set_option maxRecDepth 100000 in
theorem pm_ce76 {gi gi' : Nat → Int32} {ga ga' : Nat → List Int32} {o : Option pm_C} (hi : ∀ i ∈ pm_dI 76, gi' i = gi i) (ha : ∀ i ∈ pm_dA 76, ga' i = ga i) (h : pm_cell gi ga 76 o) : pm_cell gi' ga' 76 o := by
  have h : ∃ (xs : List Int32), xs.length = 4 ∧ (∀ b, b < 4 → (ga 7).getD b 0 = 2 → xs.getD b 0 = (ga 13).getD b 0) ∧ o = some (.inl (0, .inl xs)) := h
  show ∃ (xs : List Int32), xs.length = 4 ∧ (∀ b, b < 4 → (ga' 7).getD b 0 = 2 → xs.getD b 0 = (ga' 13).getD b 0) ∧ o = some (.inl (0, .inl xs))
  rw [ha 7 (by decide), ha 13 (by decide)]
  exact h
set_option maxRecDepth 100000 in
theorem pm_ce77 {gi gi' : Nat → Int32} {ga ga' : Nat → List Int32} {o : Option pm_C} (hi : ∀ i ∈ pm_dI 77, gi' i = gi i) (ha : ∀ i ∈ pm_dA 77, ga' i = ga i) (h : pm_cell gi ga 77 o) : pm_cell gi' ga' 77 o := by
  have h : ∃ (xs : List Int32), xs.length = 4 ∧ (∀ b, b < 4 → (ga 7).getD b 0 = 2 → xs.getD b 0 = (ga 14).getD b 0) ∧ o = some (.inl (0, .inl xs)) := h
  show ∃ (xs : List Int32), xs.length = 4 ∧ (∀ b, b < 4 → (ga' 7).getD b 0 = 2 → xs.getD b 0 = (ga' 14).getD b 0) ∧ o = some (.inl (0, .inl xs))
  rw [ha 7 (by decide), ha 14 (by decide)]
  exact h
set_option maxRecDepth 100000 in
theorem pm_ce78 {gi gi' : Nat → Int32} {ga ga' : Nat → List Int32} {o : Option pm_C} (hi : ∀ i ∈ pm_dI 78, gi' i = gi i) (ha : ∀ i ∈ pm_dA 78, ga' i = ga i) (h : pm_cell gi ga 78 o) : pm_cell gi' ga' 78 o := by
  have h : (ga 20).length = 1600 ∧ (∀ x ∈ ga 20, pm_rng x 0 3) ∧ o = some (.inl (0, .inl (ga 20))) := h
  show (ga' 20).length = 1600 ∧ (∀ x ∈ ga' 20, pm_rng x 0 3) ∧ o = some (.inl (0, .inl (ga' 20)))
  rw [ha 20 (by decide)]
  exact h
theorem pm_ce79 {gi gi' : Nat → Int32} {ga ga' : Nat → List Int32} {o : Option pm_C} (h : pm_cell gi ga 79 o) : pm_cell gi' ga' 79 o := by
  have h : ∃ (xs : List Int32), xs.length = 7 ∧ o = some (.inl (0, .inl xs)) := h
  show ∃ (xs : List Int32), xs.length = 7 ∧ o = some (.inl (0, .inl xs))
  exact h
theorem pm_ce80 {gi gi' : Nat → Int32} {ga ga' : Nat → List Int32} {o : Option pm_C} (h : pm_cell gi ga 80 o) : pm_cell gi' ga' 80 o := by
  have h : ∃ (xs : List Int32), xs.length = 20 ∧ (∀ x ∈ xs, pm_rng x (-1) 19) ∧ o = some (.inl (0, .inl xs)) := h
  show ∃ (xs : List Int32), xs.length = 20 ∧ (∀ x ∈ xs, pm_rng x (-1) 19) ∧ o = some (.inl (0, .inl xs))
  exact h
theorem pm_ce81 {gi gi' : Nat → Int32} {ga ga' : Nat → List Int32} {o : Option pm_C} (h : pm_cell gi ga 81 o) : pm_cell gi' ga' 81 o := by
  have h : ∃ (xs : List Int32), xs.length = 20 ∧ (∀ x ∈ xs, pm_rng x (0) 19) ∧ o = some (.inl (0, .inl xs)) := h
  show ∃ (xs : List Int32), xs.length = 20 ∧ (∀ x ∈ xs, pm_rng x (0) 19) ∧ o = some (.inl (0, .inl xs))
  exact h
theorem pm_ce82 {gi gi' : Nat → Int32} {ga ga' : Nat → List Int32} {o : Option pm_C} (h : pm_cell gi ga 82 o) : pm_cell gi' ga' 82 o := by
  have h : ∃ (xs : List Int32), xs.length = 21 ∧ o = some (.inl (0, .inl xs)) := h
  show ∃ (xs : List Int32), xs.length = 21 ∧ o = some (.inl (0, .inl xs))
  exact h
theorem pm_ce83 {gi gi' : Nat → Int32} {ga ga' : Nat → List Int32} {o : Option pm_C} (h : pm_cell gi ga 83 o) : pm_cell gi' ga' 83 o := by
  have h : ∃ (xs : List Int32), xs.length = 21 ∧ o = some (.inl (0, .inl xs)) := h
  show ∃ (xs : List Int32), xs.length = 21 ∧ o = some (.inl (0, .inl xs))
  exact h
theorem pm_ce84 {gi gi' : Nat → Int32} {ga ga' : Nat → List Int32} {o : Option pm_C} (h : pm_cell gi ga 84 o) : pm_cell gi' ga' 84 o := by
  have h : ∃ (xs : List Int32), xs.length = 400 ∧ o = some (.inl (0, .inl xs)) := h
  show ∃ (xs : List Int32), xs.length = 400 ∧ o = some (.inl (0, .inl xs))
  exact h
theorem pm_ce85 {gi gi' : Nat → Int32} {ga ga' : Nat → List Int32} {o : Option pm_C} (h : pm_cell gi ga 85 o) : pm_cell gi' ga' 85 o := by
  have h : ∃ (xs : List Int32), xs.length = 7 ∧ (∀ x ∈ xs, pm_rng x (0) 11) ∧ o = some (.inl (0, .inl xs)) := h
  show ∃ (xs : List Int32), xs.length = 7 ∧ (∀ x ∈ xs, pm_rng x (0) 11) ∧ o = some (.inl (0, .inl xs))
  exact h
theorem pm_ce86 {gi gi' : Nat → Int32} {ga ga' : Nat → List Int32} {o : Option pm_C} (h : pm_cell gi ga 86 o) : pm_cell gi' ga' 86 o := by
  have h : ∃ (xs : List Int32), xs.length = 7 ∧ (∀ x ∈ xs, pm_rng x (0) 11) ∧ o = some (.inl (0, .inl xs)) := h
  show ∃ (xs : List Int32), xs.length = 7 ∧ (∀ x ∈ xs, pm_rng x (0) 11) ∧ o = some (.inl (0, .inl xs))
  exact h
theorem pm_ce87 {gi gi' : Nat → Int32} {ga ga' : Nat → List Int32} {o : Option pm_C} (h : pm_cell gi ga 87 o) : pm_cell gi' ga' 87 o := by
  have h : ∃ (xs : List Int32), xs.length = 7 ∧ (∀ x ∈ xs, pm_rng x (0) 11) ∧ o = some (.inl (0, .inl xs)) := h
  show ∃ (xs : List Int32), xs.length = 7 ∧ (∀ x ∈ xs, pm_rng x (0) 11) ∧ o = some (.inl (0, .inl xs))
  exact h
set_option maxRecDepth 100000 in
theorem pm_cell_eq {gi gi' : Nat → Int32} {ga ga' : Nat → List Int32} {k : Nat} {o : Option pm_C} (hi : ∀ i ∈ pm_dI k, gi' i = gi i) (ha : ∀ i ∈ pm_dA k, ga' i = ga i) (h : pm_cell gi ga k o) : pm_cell gi' ga' k o := by
  match k, hi, ha, h with
  | 0, hi, ha, h => exact pm_ce0 hi ha h
  | 1, hi, ha, h => exact pm_ce1 hi ha h
  | 2, hi, ha, h => exact pm_ce2 hi ha h
  | 3, _, _, h => exact pm_ce3 h
  | 4, _, _, h => exact pm_ce4 h
  | 5, _, _, h => exact pm_ce5 h
  | 6, _, _, h => exact pm_ce6 h
  | 7, _, _, h => exact pm_ce7 h
  | 8, _, _, h => exact pm_ce8 h
  | 9, _, _, h => exact pm_ce9 h
  | 10, _, _, h => exact pm_ce10 h
  | 11, _, _, h => exact pm_ce11 h
  | 12, _, _, h => exact pm_ce12 h
  | 13, _, _, h => exact pm_ce13 h
  | 14, hi, ha, h => exact pm_ce14 hi ha h
  | 15, hi, ha, h => exact pm_ce15 hi ha h
  | 16, _, _, h => exact pm_ce16 h
  | 17, hi, ha, h => exact pm_ce17 hi ha h
  | 18, hi, ha, h => exact pm_ce18 hi ha h
  | 19, hi, ha, h => exact pm_ce19 hi ha h
  | 20, _, _, h => exact pm_ce20 h
  | 21, _, _, h => exact pm_ce21 h
  | 22, _, _, h => exact pm_ce22 h
  | 23, _, _, h => exact pm_ce23 h
  | 24, _, _, h => exact pm_ce24 h
  | 25, _, _, h => exact pm_ce25 h
  | 26, _, _, h => exact pm_ce26 h
  | 27, hi, ha, h => exact pm_ce27 hi ha h
  | 28, hi, ha, h => exact pm_ce28 hi ha h
  | 29, hi, ha, h => exact pm_ce29 hi ha h
  | 30, hi, ha, h => exact pm_ce30 hi ha h
  | 31, hi, ha, h => exact pm_ce31 hi ha h
  | 32, _, _, h => exact pm_ce32 h
  | 33, _, _, h => exact pm_ce33 h
  | 34, _, _, h => exact pm_ce34 h
  | 35, _, _, h => exact pm_ce35 h
  | 36, _, _, h => exact pm_ce36 h
  | 37, hi, ha, h => exact pm_ce37 hi ha h
  | 38, hi, ha, h => exact pm_ce38 hi ha h
  | 39, hi, ha, h => exact pm_ce39 hi ha h
  | 40, hi, ha, h => exact pm_ce40 hi ha h
  | 41, _, _, h => exact pm_ce41 h
  | 42, hi, ha, h => exact pm_ce42 hi ha h
  | 43, hi, ha, h => exact pm_ce43 hi ha h
  | 44, hi, ha, h => exact pm_ce44 hi ha h
  | 45, _, _, h => exact pm_ce45 h
  | 46, hi, ha, h => exact pm_ce46 hi ha h
  | 47, hi, ha, h => exact pm_ce47 hi ha h
  | 48, hi, ha, h => exact pm_ce48 hi ha h
  | 49, hi, ha, h => exact pm_ce49 hi ha h
  | 50, hi, ha, h => exact pm_ce50 hi ha h
  | 51, hi, ha, h => exact pm_ce51 hi ha h
  | 52, hi, ha, h => exact pm_ce52 hi ha h
  | 53, hi, ha, h => exact pm_ce53 hi ha h
  | 54, hi, ha, h => exact pm_ce54 hi ha h
  | 55, hi, ha, h => exact pm_ce55 hi ha h
  | 56, hi, ha, h => exact pm_ce56 hi ha h
  | 57, hi, ha, h => exact pm_ce57 hi ha h
  | 58, _, _, h => exact pm_ce58 h
  | 59, hi, ha, h => exact pm_ce59 hi ha h
  | 60, hi, ha, h => exact pm_ce60 hi ha h
  | 61, hi, ha, h => exact pm_ce61 hi ha h
  | 62, hi, ha, h => exact pm_ce62 hi ha h
  | 63, hi, ha, h => exact pm_ce63 hi ha h
  | 64, hi, ha, h => exact pm_ce64 hi ha h
  | 65, hi, ha, h => exact pm_ce65 hi ha h
  | 66, hi, ha, h => exact pm_ce66 hi ha h
  | 67, hi, ha, h => exact pm_ce67 hi ha h
  | 68, hi, ha, h => exact pm_ce68 hi ha h
  | 69, hi, ha, h => exact pm_ce69 hi ha h
  | 70, hi, ha, h => exact pm_ce70 hi ha h
  | 71, hi, ha, h => exact pm_ce71 hi ha h
  | 72, hi, ha, h => exact pm_ce72 hi ha h
  | 73, hi, ha, h => exact pm_ce73 hi ha h
  | 74, hi, ha, h => exact pm_ce74 hi ha h
  | 75, hi, ha, h => exact pm_ce75 hi ha h
  | 76, hi, ha, h => exact pm_ce76 hi ha h
  | 77, hi, ha, h => exact pm_ce77 hi ha h
  | 78, hi, ha, h => exact pm_ce78 hi ha h
  | 79, _, _, h => exact pm_ce79 h
  | 80, _, _, h => exact pm_ce80 h
  | 81, _, _, h => exact pm_ce81 h
  | 82, _, _, h => exact pm_ce82 h
  | 83, _, _, h => exact pm_ce83 h
  | 84, _, _, h => exact pm_ce84 h
  | 85, _, _, h => exact pm_ce85 h
  | 86, _, _, h => exact pm_ce86 h
  | 87, _, _, h => exact pm_ce87 h
  | n + 88, _, _, h => exact trivial
/-- one row, or one number, becomes another -/
noncomputable def pm_uA (ga : Nat → List Int32) (j : Nat) (v : List Int32) : Nat → List Int32 := fun i => if i = j then v else ga i
noncomputable def pm_uI (gi : Nat → Int32) (j : Nat) (v : Int32) : Nat → Int32 := fun i => if i = j then v else gi i
theorem pm_uA_self {ga : Nat → List Int32} {j : Nat} {v : List Int32} : pm_uA ga j v j = v := if_pos rfl
theorem pm_uA_ne {ga : Nat → List Int32} {i j : Nat} {v : List Int32} (h : i ≠ j) : pm_uA ga j v i = ga i := if_neg h
theorem pm_uI_ne {gi : Nat → Int32} {i j : Nat} {v : Int32} (h : i ≠ j) : pm_uI gi j v i = gi i := if_neg h
theorem pm_IX.uA {gi : Nat → Int32} {ga : Nat → List Int32} {w : pm_W} (h : pm_IX gi ga w) (p j : Nat) (hp : p < 59) (hd : ∀ k, k < 59 → k ≠ p → ¬ j ∈ pm_dA k) {v : List Int32} {c : pm_C} (hc : pm_cell gi (pm_uA ga j v) p (some c)) : pm_IX gi (pm_uA ga j v) (w.set p c) := ⟨by rw [List.length_set]; exact h.1, fun k hk => by
  by_cases e : p = k
  · subst e
    rw [List.getElem?_set_self (by rw [h.1]; omega)]
    exact hc
  · rw [List.getElem?_set_ne e]
    exact pm_cell_eq (fun _ _ => rfl) (fun i hi => pm_uA_ne (fun e2 => hd k hk (Ne.symm e) (e2 ▸ hi))) (h.2 k hk)⟩
theorem pm_IX.uI {gi : Nat → Int32} {ga : Nat → List Int32} {w : pm_W} (h : pm_IX gi ga w) (p j : Nat) (hp : p < 59) (hd : ∀ k, k < 59 → k ≠ p → ¬ j ∈ pm_dI k) {v : Int32} {c : pm_C} (hc : pm_cell (pm_uI gi j v) ga p (some c)) : pm_IX (pm_uI gi j v) ga (w.set p c) := ⟨by rw [List.length_set]; exact h.1, fun k hk => by
  by_cases e : p = k
  · subst e
    rw [List.getElem?_set_self (by rw [h.1]; omega)]
    exact hc
  · rw [List.getElem?_set_ne e]
    exact pm_cell_eq (fun i hi => pm_uI_ne (fun e2 => hd k hk (Ne.symm e) (e2 ▸ hi))) (fun _ _ => rfl) (h.2 k hk)⟩
theorem pm_IM.uA {gi : Nat → Int32} {ga : Nat → List Int32} {w : pm_W} (h : pm_IM gi ga w) (p j : Nat) (hp : 59 ≤ p) (hp2 : p < 88) (h62 : p ≠ 62) (h63 : p ≠ 63) (hd : ∀ k, k < 88 → 59 ≤ k → k ≠ p → ¬ j ∈ pm_dA k) {v : List Int32} {c : pm_C} (hc : pm_cell gi (pm_uA ga j v) p (some c)) : pm_IM gi (pm_uA ga j v) (w.set p c) := ⟨by rw [List.length_set]; exact h.1, fun k hk hk2 => by
  by_cases e : p = k
  · subst e
    rw [List.getElem?_set_self (by rw [h.1]; omega)]
    exact hc
  · rw [List.getElem?_set_ne e]
    exact pm_cell_eq (fun _ _ => rfl) (fun i hi => pm_uA_ne (fun e2 => hd k hk2 hk (Ne.symm e) (e2 ▸ hi))) (h.2.1 k hk hk2), h.2.2.set p h62 h63 c⟩
theorem pm_IM.uI {gi : Nat → Int32} {ga : Nat → List Int32} {w : pm_W} (h : pm_IM gi ga w) (p j : Nat) (hp : 59 ≤ p) (hp2 : p < 88) (h62 : p ≠ 62) (h63 : p ≠ 63) (hd : ∀ k, k < 88 → 59 ≤ k → k ≠ p → ¬ j ∈ pm_dI k) {v : Int32} {c : pm_C} (hc : pm_cell (pm_uI gi j v) ga p (some c)) : pm_IM (pm_uI gi j v) ga (w.set p c) := ⟨by rw [List.length_set]; exact h.1, fun k hk hk2 => by
  by_cases e : p = k
  · subst e
    rw [List.getElem?_set_self (by rw [h.1]; omega)]
    exact hc
  · rw [List.getElem?_set_ne e]
    exact pm_cell_eq (fun i hi => pm_uI_ne (fun e2 => hd k hk2 hk (Ne.symm e) (e2 ▸ hi))) (fun _ _ => rfl) (h.2.1 k hk hk2), h.2.2.set p h62 h63 c⟩
set_option maxRecDepth 100000 in
theorem pm_IX0 : pm_IX pm_gi0 pm_ga0 pm_w2 := ⟨rfl, fun k hk => by
  match k, hk with
  | 0, _ => exact ⟨0, ⟨by decide, rfl⟩, rfl⟩
  | 1, _ => exact rfl
  | 2, _ => exact ⟨List.length_replicate, pm_rep_rng (by decide) (by decide), (by rw [show pm_ga0 15 = List.replicate 400 0 from rfl, pm_enc0]; rfl)⟩
  | 3, _ => exact ⟨0, ⟨by decide, by decide⟩, rfl⟩
  | 4, _ => exact ⟨_, rfl, rfl⟩
  | 5, _ => exact ⟨0, ⟨by decide, by decide⟩, rfl⟩
  | 6, _ => exact ⟨0, ⟨by decide, by decide⟩, rfl⟩
  | 7, _ => exact ⟨_, rfl, rfl⟩
  | 8, _ => exact ⟨_, rfl, pm_rep_rng (by decide) (by decide), rfl⟩
  | 9, _ => exact ⟨_, rfl, pm_rep_rng (by decide) (by decide), rfl⟩
  | 10, _ => exact ⟨1, 0, 0, ⟨by decide, by decide⟩, ⟨by decide, by decide⟩, by decide, rfl⟩
  | 11, _ => exact ⟨_, rfl, rfl⟩
  | 12, _ => exact ⟨_, rfl, pm_rep_rng (by decide) (by decide), rfl⟩
  | 13, _ => exact ⟨_, rfl, rfl⟩
  | 14, _ => exact ⟨8, 8, ⟨⟨by decide, by decide⟩, rfl⟩, ⟨⟨by decide, by decide⟩, rfl⟩, rfl⟩
  | 15, _ => exact ⟨_, rfl, ⟨by rw [show pm_ga0 24 = List.replicate 400 0 from rfl, pm_enc0], List.length_replicate, pm_rep_rng (by decide) (by decide)⟩, rfl⟩
  | 16, _ => exact rfl
  | 17, _ => exact ⟨_, rfl, pm_rep_rng (by decide) (by decide), rfl, rfl⟩
  | 18, _ => exact ⟨_, rfl, rfl, rfl⟩
  | 19, _ => exact ⟨_, rfl, rfl, rfl⟩
  | 20, _ => exact ⟨(-9), (-9), (-9), rfl⟩
  | 21, _ => exact rfl
  | 22, _ => exact ⟨_, rfl, pm_rep_rng (by decide) (by decide), rfl⟩
  | 23, _ => exact ⟨_, rfl, rfl⟩
  | 24, _ => exact ⟨_, rfl, rfl⟩
  | 25, _ => exact ⟨0, ⟨by decide, by decide⟩, rfl⟩
  | 26, _ => exact ⟨_, rfl, rfl⟩
  | 27, _ => exact rfl
  | 28, _ => exact rfl
  | 29, _ => exact rfl
  | 30, _ => exact rfl
  | 31, _ => exact rfl
  | 32, _ => exact ⟨0, 0, 0, by decide, ⟨by decide, by decide⟩, rfl⟩
  | 33, _ => exact ⟨_, rfl, pm_rep_rng (by decide) (by decide), rfl⟩
  | 34, _ => exact ⟨_, rfl, pm_rep_rng (by decide) (by decide), rfl⟩
  | 35, _ => exact ⟨_, rfl, pm_rep_rng (by decide) (by decide), rfl⟩
  | 36, _ => exact ⟨_, rfl, pm_rep_rng (by decide) (by decide), rfl⟩
  | 37, _ => exact rfl
  | 38, _ => exact rfl
  | 39, _ => exact rfl
  | 40, _ => exact rfl
  | 41, _ => exact rfl
  | 42, _ => exact rfl
  | 43, _ => exact rfl
  | 44, _ => exact rfl
  | 45, _ => exact rfl
  | 46, _ => exact rfl
  | 47, _ => exact rfl
  | 48, _ => exact ⟨List.length_replicate, pm_rep_rng (by decide) (by decide), (by rw [show pm_ga0 16 = List.replicate 400 0 from rfl, pm_enc0]; rfl)⟩
  | 49, _ => exact rfl
  | 50, _ => exact rfl
  | 51, _ => exact ⟨List.length_replicate, pm_rep_rng (by decide) (by decide), (by rw [show pm_ga0 17 = List.replicate 400 0 from rfl, pm_enc0]; rfl)⟩
  | 52, _ => exact rfl
  | 53, _ => exact rfl
  | 54, _ => exact ⟨List.length_replicate, pm_rep_rng (by decide) (by decide), (by rw [show pm_ga0 18 = List.replicate 400 0 from rfl, pm_enc0]; rfl)⟩
  | 55, _ => exact rfl
  | 56, _ => exact rfl
  | 57, _ => exact ⟨List.length_replicate, pm_rep_rng (by decide) (by decide), (by rw [show pm_ga0 19 = List.replicate 400 0 from rfl, pm_enc0]; rfl)⟩
  | 58, _ => exact ⟨_, rfl, rfl⟩
  | n + 59, h => omega⟩
set_option maxRecDepth 100000 in
theorem pm_IM0 : pm_IM pm_gi0 pm_ga0 pm_w2 := ⟨rfl, fun k h1 h2 => by
  obtain ⟨j, rfl⟩ : ∃ j, k = 59 + j := ⟨k - 59, by omega⟩
  match j, h1, h2 with
  | 0, _, _ => exact ⟨0, 0, 0, 0, 0, 0, 0, 0, ⟨by decide, rfl⟩, ⟨⟨by decide, by decide⟩, rfl⟩, ⟨⟨by decide, by decide⟩, rfl⟩, ⟨by decide, by decide⟩, ⟨by decide, by decide⟩, rfl⟩
  | 1, _, _ => exact ⟨List.length_replicate, pm_rep_rng (by decide) (by decide), rfl⟩
  | 2, _, _ => exact ⟨_, rfl, rfl, rfl⟩
  | 3, _, _ => exact ⟨_, rfl, rfl, rfl⟩
  | 4, _, _ => exact ⟨_, rfl, rfl, rfl⟩
  | 5, _, _ => exact rfl
  | 6, _, _ => exact rfl
  | 7, _, _ => exact rfl
  | 8, _, _ => exact rfl
  | 9, _, _ => exact rfl
  | 10, _, _ => exact rfl
  | 11, _, _ => exact rfl
  | 12, _, _ => exact rfl
  | 13, _, _ => exact rfl
  | 14, _, _ => exact rfl
  | 15, _, _ => exact rfl
  | 16, _, _ => exact rfl
  | 17, _, _ => exact ⟨_, rfl, (by decide), rfl⟩
  | 18, _, _ => exact ⟨_, rfl, (by decide), rfl⟩
  | 19, _, _ => exact ⟨List.length_replicate, pm_rep_rng (by decide) (by decide), rfl⟩
  | 20, _, _ => exact ⟨_, rfl, rfl⟩
  | 21, _, _ => exact ⟨_, rfl, pm_rep_rng (by decide) (by decide), rfl⟩
  | 22, _, _ => exact ⟨_, rfl, pm_rep_rng (by decide) (by decide), rfl⟩
  | 23, _, _ => exact ⟨_, rfl, rfl⟩
  | 24, _, _ => exact ⟨_, rfl, rfl⟩
  | 25, _, _ => exact ⟨_, rfl, rfl⟩
  | 26, _, _ => exact ⟨_, rfl, pm_rep_rng (by decide) (by decide), rfl⟩
  | 27, _, _ => exact ⟨_, rfl, pm_rep_rng (by decide) (by decide), rfl⟩
  | 28, _, _ => exact ⟨_, rfl, pm_rep_rng (by decide) (by decide), rfl⟩
  | n + 29, _, h => omega, ⟨_, _, rfl, rfl, rfl, rfl, by decide⟩⟩

