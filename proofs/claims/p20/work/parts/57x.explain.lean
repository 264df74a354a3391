/-- the first that fits: none, a cord broken, a pick skipped, two cords crossed; -9: nothing fits -/
def ex_R (F0 : Prop) (F1 F2 : Nat → Prop) (F3 : Nat → Nat → Prop) (m H : Nat) (k a b : Int) : Prop :=
  (F0 ∧ k = 0 ∧ a = -9 ∧ b = -9) ∨
  (¬ F0 ∧ ∃ i : Nat, i < m ∧ F1 i ∧ (∀ j, j < i → ¬ F1 j) ∧ k = 1 ∧ a = (i : Int) ∧ b = -9) ∨
  (¬ F0 ∧ (∀ j, j < m → ¬ F1 j) ∧ ∃ i : Nat, i < H ∧ F2 i ∧ (∀ j, j < i → ¬ F2 j) ∧ k = 2 ∧ a = (i : Int) ∧ b = -9) ∨
  (¬ F0 ∧ (∀ j, j < m → ¬ F1 j) ∧ (∀ j, j < H → ¬ F2 j) ∧ ∃ i n : Nat, i < n ∧ n < m ∧ F3 i n ∧ (∀ j l, j < i → j < l → l < m → ¬ F3 j l) ∧ (∀ l, i < l → l < n → ¬ F3 i l) ∧ k = 3 ∧ a = (i : Int) ∧ b = (n : Int)) ∨
  (¬ F0 ∧ (∀ j, j < m → ¬ F1 j) ∧ (∀ j, j < H → ¬ F2 j) ∧ (∀ j l, j < l → l < m → ¬ F3 j l) ∧ k = -9 ∧ a = -9 ∧ b = -9)
theorem ex_R.uniq {F0 : Prop} {F1 F2 : Nat → Prop} {F3 : Nat → Nat → Prop} {m H : Nat} {k a b k' a' b' : Int} (h : ex_R F0 F1 F2 F3 m H k a b) (g : ex_R F0 F1 F2 F3 m H k' a' b') : k = k' ∧ a = a' ∧ b = b' := by
  rcases h with ⟨p, h1, h2, h3⟩ | ⟨p, i, hi, h1, h2, hk, ha, hb⟩ | ⟨p, q, i, hi, h1, h2, hk, ha, hb⟩ | ⟨p, q, r, i, n, hi, hn, h1, h2, h3, hk, ha, hb⟩ | ⟨p, q, r, s, hk, ha, hb⟩
  · rcases g with ⟨p', g1, g2, g3⟩ | ⟨p', -⟩ | ⟨p', -⟩ | ⟨p', -⟩ | ⟨p', -⟩
    · exact ⟨by omega, by omega, by omega⟩
    · exact absurd p p'
    · exact absurd p p'
    · exact absurd p p'
    · exact absurd p p'
  · rcases g with ⟨p', -⟩ | ⟨p', i', hi', g1, g2, gk, ga, gb⟩ | ⟨p', q', -⟩ | ⟨p', q', -⟩ | ⟨p', q', -⟩
    · exact absurd p' p
    · rcases Nat.lt_trichotomy i i' with c | c | c
      · exact absurd h1 (g2 i c)
      · exact ⟨by omega, by omega, by omega⟩
      · exact absurd g1 (h2 i' c)
    · exact absurd h1 (q' i hi)
    · exact absurd h1 (q' i hi)
    · exact absurd h1 (q' i hi)
  · rcases g with ⟨p', -⟩ | ⟨p', i', hi', g1, g2, gk, ga, gb⟩ | ⟨p', q', i', hi', g1, g2, gk, ga, gb⟩ | ⟨p', q', r', -⟩ | ⟨p', q', r', -⟩
    · exact absurd p' p
    · exact absurd g1 (q i' hi')
    · rcases Nat.lt_trichotomy i i' with c | c | c
      · exact absurd h1 (g2 i c)
      · exact ⟨by omega, by omega, by omega⟩
      · exact absurd g1 (h2 i' c)
    · exact absurd h1 (r' i hi)
    · exact absurd h1 (r' i hi)
  · rcases g with ⟨p', -⟩ | ⟨p', i', hi', g1, g2, gk, ga, gb⟩ | ⟨p', q', i', hi', g1, g2, gk, ga, gb⟩ | ⟨p', q', r', i', n', hi', hn', g1, g2, g3, gk, ga, gb⟩ | ⟨p', q', r', s', -⟩
    · exact absurd p' p
    · exact absurd g1 (q i' hi')
    · exact absurd g1 (r i' hi')
    · rcases Nat.lt_trichotomy i i' with c | c | c
      · exact absurd h1 (g2 i n c hi hn)
      · subst c
        rcases Nat.lt_trichotomy n n' with d | d | d
        · exact absurd h1 (g3 n hi d)
        · exact ⟨by omega, by omega, by omega⟩
        · exact absurd g1 (h3 n' hi' d)
      · exact absurd g1 (h2 i' n' c hi' hn')
    · exact absurd h1 (s' i n hi hn)
  · rcases g with ⟨p', -⟩ | ⟨p', i', hi', g1, g2, gk, ga, gb⟩ | ⟨p', q', i', hi', g1, g2, gk, ga, gb⟩ | ⟨p', q', r', i', n', hi', hn', g1, g2, g3, gk, ga, gb⟩ | ⟨p', q', r', s', gk, ga, gb⟩
    · exact absurd p' p
    · exact absurd g1 (q i' hi')
    · exact absurd g1 (r i' hi')
    · exact absurd g1 (s i' n' hi' hn')
    · exact ⟨by omega, by omega, by omega⟩
theorem ex_R.imp {F0 G0 : Prop} {F1 F2 G1 G2 : Nat → Prop} {F3 G3 : Nat → Nat → Prop} {m H : Nat} {k a b : Int} (h : ex_R F0 F1 F2 F3 m H k a b) (e0 : F0 ↔ G0) (e1 : ∀ i, i < m → (F1 i ↔ G1 i)) (e2 : ∀ i, i < H → (F2 i ↔ G2 i)) (e3 : ∀ i n, i < n → n < m → (F3 i n ↔ G3 i n)) : ex_R G0 G1 G2 G3 m H k a b := by
  rcases h with ⟨p, h1⟩ | ⟨p, i, hi, h1, h2, hk⟩ | ⟨p, q, i, hi, h1, h2, hk⟩ | ⟨p, q, r, i, n, hi, hn, h1, h2, h3, hk⟩ | ⟨p, q, r, s, hk⟩
  · exact Or.inl ⟨e0.mp p, h1⟩
  · exact Or.inr (Or.inl ⟨fun g => p (e0.mpr g), i, hi, (e1 i hi).mp h1, fun j hj g => h2 j hj ((e1 j (by omega)).mpr g), hk⟩)
  · exact Or.inr (Or.inr (Or.inl ⟨fun g => p (e0.mpr g), fun j hj g => q j hj ((e1 j hj).mpr g), i, hi, (e2 i hi).mp h1, fun j hj g => h2 j hj ((e2 j (by omega)).mpr g), hk⟩))
  · exact Or.inr (Or.inr (Or.inr (Or.inl ⟨fun g => p (e0.mpr g), fun j hj g => q j hj ((e1 j hj).mpr g), fun j hj g => r j hj ((e2 j hj).mpr g), i, n, hi, hn, (e3 i n hi hn).mp h1, fun j l h4 h5 h6 g => h2 j l h4 h5 h6 ((e3 j l h5 h6).mpr g), fun l h4 h5 g => h3 l h4 h5 ((e3 i l h4 (by omega)).mpr g), hk⟩)))
  · exact Or.inr (Or.inr (Or.inr (Or.inr ⟨fun g => p (e0.mpr g), fun j hj g => q j hj ((e1 j hj).mpr g), fun j hj g => r j hj ((e2 j hj).mpr g), fun j l h4 h5 g => s j l h4 h5 ((e3 j l h4 h5).mpr g), hk⟩)))
/-- a cloth that is the design with one fault -/
def ex_E0 (ds cl : List Int32) (W H : Nat) : Prop := ∀ x y, x < W → y < H → cl.getD (20 * y + x) 0 = sq_c ds x y
def ex_E1 (ds cl os : List Int32) (W H i : Nat) : Prop := ∀ x y, x < W → y < H → cl.getD (20 * y + x) 0 = if sq_lk os x = (i : Int) then 0 else sq_c ds x y
def ex_E2 (ds cl : List Int32) (W H i : Nat) : Prop := ∀ x y, x < W → y < H → cl.getD (20 * y + x) 0 = if i ≤ y then (if y + 1 < H then sq_c ds x (y + 1) else 0) else sq_c ds x y
def ex_E3 (ds cl fs os : List Int32) (W H i n : Nat) : Prop := ∀ x y, x < W → y < H → cl.getD (20 * y + x) 0 = if sq_lk os x = (i : Int) then sq_c ds (sq_lk fs n).toNat y else if sq_lk os x = (n : Int) then sq_c ds (sq_lk fs i).toNat y else sq_c ds x y
def ex_X (ds cl fs os : List Int32) (W H m : Nat) (k a b : Int) : Prop := ex_R (ex_E0 ds cl W H) (ex_E1 ds cl os W H) (ex_E2 ds cl W H) (ex_E3 ds cl fs os W H) m H k a b
theorem ex_X.uniq {ds cl el fs os gs ps : List Int32} {W H m : Nat} {k a b k' a' b' : Int} (h : ex_X ds cl fs os W H m k a b) (g : ex_X ds el gs ps W H m k' a' b') (hc : ∀ x y, x < W → y < H → el.getD (20 * y + x) 0 = cl.getD (20 * y + x) 0) (hf : ∀ c, c < m → sq_lk fs c = sq_lk gs c) (ho : ∀ x, x < W → sq_lk os x = sq_lk ps x) : k = k' ∧ a = a' ∧ b = b' := by
  refine ex_R.uniq h (ex_R.imp g ⟨fun q x y hx hy => ?_, fun q x y hx hy => ?_⟩ (fun i hi => ⟨fun q x y hx hy => ?_, fun q x y hx hy => ?_⟩) (fun i hi => ⟨fun q x y hx hy => ?_, fun q x y hx hy => ?_⟩) (fun i n hi hn => ⟨fun q x y hx hy => ?_, fun q x y hx hy => ?_⟩))
  · rw [← hc x y hx hy]; exact q x y hx hy
  · rw [hc x y hx hy]; exact q x y hx hy
  · rw [← hc x y hx hy, ho x hx]; exact q x y hx hy
  · rw [hc x y hx hy, ← ho x hx]; exact q x y hx hy
  · rw [← hc x y hx hy]; exact q x y hx hy
  · rw [hc x y hx hy]; exact q x y hx hy
  · rw [← hc x y hx hy, ho x hx, hf n hn, hf i (by omega)]; exact q x y hx hy
  · rw [hc x y hx hy, ← ho x hx, ← hf n hn, ← hf i (by omega)]; exact q x y hx hy
