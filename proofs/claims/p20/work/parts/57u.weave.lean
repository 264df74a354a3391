/-- the column, the pick that is shown; -9: none -/
noncomputable def wv_col (t f s fs os : List Int32) (m : Int) (x : Nat) : Int := if (t.getD 1 0).toInt = 1 ∧ (f.getD 1 0).toInt = sq_lk os x then -9 else if (t.getD 3 0).toInt = 1 ∧ 0 ≤ (f.getD 3 0).toInt ∧ (f.getD 3 0).toInt < m ∧ 0 ≤ (s.getD 3 0).toInt ∧ (s.getD 3 0).toInt < m then (if sq_lk os x = (f.getD 3 0).toInt then sq_lk fs (s.getD 3 0).toInt.toNat else if sq_lk os x = (s.getD 3 0).toInt then sq_lk fs (f.getD 3 0).toInt.toNat else (x : Int)) else (x : Int)
noncomputable def wv_pick (t f : List Int32) (H y : Int) : Int := if (t.getD 2 0).toInt = 0 ∨ H ≤ (f.getD 2 0).toInt ∨ y < (f.getD 2 0).toInt then y else if y + 1 < H then y + 1 else -9
noncomputable def wv (ds t f s fs os : List Int32) (m H : Int) (x y : Nat) : Int32 := if 0 ≤ wv_pick t f H y ∧ 0 ≤ wv_col t f s fs os m x then sq_c ds (wv_col t f s fs os m x).toNat (wv_pick t f H y).toNat else 0
/-- by the reference's steps -/
noncomputable def wm1 (ds A B fs os : List Int32) (m : Int) (x y : Nat) : Int32 := if 0 ≤ (A.getD 3 0).toInt ∧ (A.getD 3 0).toInt < m ∧ (B.getD 3 0).toInt < m then (if sq_lk os x = (A.getD 3 0).toInt then sq_c ds (sq_lk fs (B.getD 3 0).toInt.toNat).toNat y else if sq_lk os x = (B.getD 3 0).toInt then sq_c ds (sq_lk fs (A.getD 3 0).toInt.toNat).toNat y else sq_c ds x y) else sq_c ds x y
noncomputable def wm2 (ds A B fs os : List Int32) (m : Int) (x y : Nat) : Int32 := if 0 ≤ (A.getD 1 0).toInt ∧ (A.getD 1 0).toInt < m ∧ sq_lk os x = (A.getD 1 0).toInt then 0 else wm1 ds A B fs os m x y
noncomputable def wm3 (ds A B fs os : List Int32) (m : Int) (H : Nat) (x y : Nat) : Int32 := if 0 ≤ (A.getD 2 0).toInt ∧ (A.getD 2 0).toInt < H ∧ (A.getD 2 0).toInt ≤ (y : Int) then (if y + 1 < H then wm2 ds A B fs os m x (y + 1) else 0) else wm2 ds A B fs os m x y
/-- faults as both sides have them -/
def pm_Fj (ga : Nat → List Int32) : Prop := (∀ k, 1 ≤ k → k ≤ 3 → (((ga 21).getD k 0).toInt = 1 ∧ 0 ≤ ((ga 25).getD k 0).toInt ∧ (ga 22).getD k 0 = (ga 25).getD k 0) ∨ (((ga 21).getD k 0).toInt = 0 ∧ ((ga 25).getD k 0).toInt < 0)) ∧ (((ga 21).getD 3 0).toInt = 1 → (ga 23).getD 3 0 = (ga 26).getD 3 0 ∧ 0 ≤ ((ga 26).getD 3 0).toInt)
/-- one square of the cloth, by both -/
theorem wv_eq {ga : Nat → List Int32} (hF : pm_Fj ga) {ds fs os : List Int32} {m : Int} {H x y : Nat} (ho : 0 ≤ sq_lk os x ∧ sq_lk os x < m) (hf : ∀ c : Nat, (c : Int) < m → 0 ≤ sq_lk fs c) (hy : y < H) : wv ds (ga 21) (ga 22) (ga 23) fs os m (H : Int) x y = wm3 ds (ga 25) (ga 26) fs os m H x y := by
  have f1 := hF.1 1 (by decide) (by decide)
  have f2 := hF.1 2 (by decide) (by decide)
  have f3 := hF.1 3 (by decide) (by decide)
  have f4 := hF.2
  -- a column of any pick
  have hc : ∀ p : Nat, (if 0 ≤ wv_col (ga 21) (ga 22) (ga 23) fs os m x then sq_c ds (wv_col (ga 21) (ga 22) (ga 23) fs os m x).toNat p else 0) = wm2 ds (ga 25) (ga 26) fs os m x p := fun p => by
    by_cases a1 : ((ga 21).getD 1 0).toInt = 1 ∧ ((ga 22).getD 1 0).toInt = sq_lk os x
    · have e : wv_col (ga 21) (ga 22) (ga 23) fs os m x = -9 := by
        unfold wv_col
        rw [if_pos a1]
      rw [e, if_neg (by decide)]
      unfold wm2
      rcases f1 with ⟨q1, q2, q3⟩ | ⟨q1, q2⟩
      · rw [q3] at a1
        rw [if_pos (show 0 ≤ ((ga 25).getD 1 0).toInt ∧ ((ga 25).getD 1 0).toInt < m ∧ sq_lk os x = ((ga 25).getD 1 0).toInt from ⟨q2, by omega, by omega⟩)]
      · omega
    · have h2 : wm2 ds (ga 25) (ga 26) fs os m x p = wm1 ds (ga 25) (ga 26) fs os m x p := by
        unfold wm2
        refine if_neg (fun q => ?_)
        rcases f1 with ⟨q1, q2, q3⟩ | ⟨q1, q2⟩
        · rw [q3] at a1
          exact a1 ⟨q1, q.2.2.symm⟩
        · omega
      rw [h2]
      unfold wm1
      rcases f3 with ⟨q1, q2, q3⟩ | ⟨q1, q2⟩
      · obtain ⟨q4, q5⟩ := f4 q1
        by_cases a2 : ((ga 25).getD 3 0).toInt < m ∧ ((ga 26).getD 3 0).toInt < m
        · rw [if_pos (show 0 ≤ ((ga 25).getD 3 0).toInt ∧ ((ga 25).getD 3 0).toInt < m ∧ ((ga 26).getD 3 0).toInt < m from ⟨q2, a2.1, a2.2⟩)]
          have u : wv_col (ga 21) (ga 22) (ga 23) fs os m x = if sq_lk os x = ((ga 25).getD 3 0).toInt then sq_lk fs (((ga 26).getD 3 0).toInt).toNat else if sq_lk os x = ((ga 26).getD 3 0).toInt then sq_lk fs (((ga 25).getD 3 0).toInt).toNat else (x : Int) := by
            unfold wv_col
            rw [if_neg a1, q3, q4, if_pos (show ((ga 21).getD 3 0).toInt = 1 ∧ 0 ≤ ((ga 25).getD 3 0).toInt ∧ ((ga 25).getD 3 0).toInt < m ∧ 0 ≤ ((ga 26).getD 3 0).toInt ∧ ((ga 26).getD 3 0).toInt < m from ⟨q1, q2, a2.1, q5, a2.2⟩)]
          by_cases a3 : sq_lk os x = ((ga 25).getD 3 0).toInt
          · rw [if_pos a3] at u
            rw [u, if_pos a3, if_pos (hf (((ga 26).getD 3 0).toInt).toNat (by omega))]
          · rw [if_neg a3] at u
            rw [if_neg a3]
            by_cases a4 : sq_lk os x = ((ga 26).getD 3 0).toInt
            · rw [if_pos a4] at u
              rw [u, if_pos a4, if_pos (hf (((ga 25).getD 3 0).toInt).toNat (by omega))]
            · rw [if_neg a4] at u
              rw [u, if_neg a4, if_pos (show 0 ≤ (x : Int) by omega), Int.toNat_natCast]
        · have u : wv_col (ga 21) (ga 22) (ga 23) fs os m x = (x : Int) := by
            unfold wv_col
            rw [if_neg a1, q3, q4, if_neg (fun q => a2 ⟨q.2.2.1, q.2.2.2.2⟩)]
          rw [u, if_pos (show 0 ≤ (x : Int) by omega), if_neg (fun q => a2 ⟨q.2.1, q.2.2⟩), Int.toNat_natCast]
      · have u : wv_col (ga 21) (ga 22) (ga 23) fs os m x = (x : Int) := by
          unfold wv_col
          rw [if_neg a1, if_neg (fun q => by omega)]
        rw [u, if_pos (show 0 ≤ (x : Int) by omega), if_neg (fun q => by omega), Int.toNat_natCast]
  have hz : ∀ p : Nat, (if 0 ≤ (p : Int) ∧ 0 ≤ wv_col (ga 21) (ga 22) (ga 23) fs os m x then sq_c ds (wv_col (ga 21) (ga 22) (ga 23) fs os m x).toNat (p : Int).toNat else 0) = wm2 ds (ga 25) (ga 26) fs os m x p := fun p => by
    rw [← hc p, Int.toNat_natCast]
    by_cases b3 : 0 ≤ wv_col (ga 21) (ga 22) (ga 23) fs os m x
    · rw [if_pos (show 0 ≤ (p : Int) ∧ 0 ≤ wv_col (ga 21) (ga 22) (ga 23) fs os m x from ⟨by omega, b3⟩), if_pos b3]
    · rw [if_neg (show ¬ (0 ≤ (p : Int) ∧ 0 ≤ wv_col (ga 21) (ga 22) (ga 23) fs os m x) from fun q => b3 q.2), if_neg b3]
  unfold wv wm3
  rcases f2 with ⟨q1, q2, q3⟩ | ⟨q1, q2⟩
  · by_cases b1 : ((ga 25).getD 2 0).toInt < (H : Int) ∧ ((ga 25).getD 2 0).toInt ≤ (y : Int)
    · rw [if_pos (show 0 ≤ ((ga 25).getD 2 0).toInt ∧ ((ga 25).getD 2 0).toInt < (H : Int) ∧ ((ga 25).getD 2 0).toInt ≤ (y : Int) from ⟨q2, b1.1, b1.2⟩)]
      by_cases b2 : y + 1 < H
      · have e : wv_pick (ga 21) (ga 22) (H : Int) (y : Int) = ((y + 1 : Nat) : Int) := by
          unfold wv_pick
          rw [q3, if_neg (show ¬ (((ga 21).getD 2 0).toInt = 0 ∨ (H : Int) ≤ ((ga 25).getD 2 0).toInt ∨ (y : Int) < ((ga 25).getD 2 0).toInt) by omega), if_pos (show (y : Int) + 1 < (H : Int) by omega)]
          rfl
        rw [e, if_pos b2]
        exact hz (y + 1)
      · have e : wv_pick (ga 21) (ga 22) (H : Int) (y : Int) = -9 := by
          unfold wv_pick
          rw [q3, if_neg (show ¬ (((ga 21).getD 2 0).toInt = 0 ∨ (H : Int) ≤ ((ga 25).getD 2 0).toInt ∨ (y : Int) < ((ga 25).getD 2 0).toInt) by omega), if_neg (show ¬ (y : Int) + 1 < (H : Int) by omega)]
        rw [e, if_neg b2]
        exact if_neg (fun q => absurd q.1 (by decide))
    · have e : wv_pick (ga 21) (ga 22) (H : Int) (y : Int) = (y : Int) := by
        unfold wv_pick
        rw [q3, if_pos (show ((ga 21).getD 2 0).toInt = 0 ∨ (H : Int) ≤ ((ga 25).getD 2 0).toInt ∨ (y : Int) < ((ga 25).getD 2 0).toInt by omega)]
      rw [e, if_neg (show ¬ (0 ≤ ((ga 25).getD 2 0).toInt ∧ ((ga 25).getD 2 0).toInt < (H : Int) ∧ ((ga 25).getD 2 0).toInt ≤ (y : Int)) from fun q => b1 ⟨q.2.1, q.2.2⟩)]
      exact hz y
  · have e : wv_pick (ga 21) (ga 22) (H : Int) (y : Int) = (y : Int) := by
      unfold wv_pick
      rw [if_pos (show ((ga 21).getD 2 0).toInt = 0 ∨ (H : Int) ≤ ((ga 22).getD 2 0).toInt ∨ (y : Int) < ((ga 22).getD 2 0).toInt from Or.inl q1)]
    rw [e, if_neg (show ¬ (0 ≤ ((ga 25).getD 2 0).toInt ∧ ((ga 25).getD 2 0).toInt < (H : Int) ∧ ((ga 25).getD 2 0).toInt ≤ (y : Int)) by omega)]
    exact hz y
/-- counts agree where squares agree -/
theorem cf_congr {a b c : List Int32} {m : Nat} : ∀ {x : Nat}, (∀ i, x ≤ i → i < x + m → a.getD i 0 = b.getD i 0) → cf a c x m = cf b c x m := by
  induction m with
  | zero => intro x _; rfl
  | succ m ih =>
    intro x h
    rw [cf_s, cf_s, h x (by omega) (by omega), ih (fun i h1 h2 => h i (by omega) (by omega))]
theorem cd_congr {a b c : List Int32} {A m : Nat} : ∀ {y : Nat}, (∀ x j, x < A → y ≤ j → j < y + m → a.getD (20 * j + x) 0 = b.getD (20 * j + x) 0) → cd a c A y m = cd b c A y m := by
  induction m with
  | zero => intro y _; rfl
  | succ m ih =>
    intro y h
    have e := cf_congr (a := a) (b := b) (c := c) (x := 20 * y) (m := A) (fun i h1 h2 => by
      have q := h (i - 20 * y) y (by omega) (by omega) (by omega)
      rw [show 20 * y + (i - 20 * y) = i by omega] at q
      exact q)
    rw [cd_s, cd_s, ih (fun x j h1 h2 h3 => h x j h1 (by omega) (by omega)), e]
/-- one row more, at the end -/
theorem cd_last {a c : List Int32} {A m : Nat} : ∀ {y : Nat}, cd a c A y (m + 1) = cd a c A y m + cf a c (20 * (y + m)) A := by
  induction m with
  | zero =>
    intro y
    rw [cd_s]
    show cf a c (20 * y) A + 0 = 0 + _
    rw [Nat.add_zero, Nat.zero_add, Nat.add_zero]
  | succ m ih =>
    intro y
    rw [cd_s, ih, cd_s, show y + 1 + m = y + (m + 1) by omega]
    omega
theorem cf_last {a c : List Int32} {x m : Nat} : cf a c x (m + 1) = cf a c x m + (if a.getD (x + m) 0 = c.getD (x + m) 0 then 0 else 1) := by
  rw [cf_add]
  show _ + ((if a.getD (x + m) 0 = c.getD (x + m) 0 then 0 else 1) + 0) = _
  rw [Nat.add_zero]
theorem wm3_congr {ds A B fs os gs ps : List Int32} {m n : Int} {H x y : Nat} (em : n = m) (eo : sq_lk os x = sq_lk ps x) (ef : ∀ c : Nat, (c : Int) < m → sq_lk fs c = sq_lk gs c) : wm3 ds A B fs os m H x y = wm3 ds A B gs ps n H x y := by
  subst em
  have h1 : ∀ p, wm1 ds A B fs os n x p = wm1 ds A B gs ps n x p := fun p => by
    unfold wm1
    by_cases c : 0 ≤ (A.getD 3 0).toInt ∧ (A.getD 3 0).toInt < n ∧ (B.getD 3 0).toInt < n
    · rw [if_pos c, if_pos c, eo, ef (A.getD 3 0).toInt.toNat (by omega), ef (B.getD 3 0).toInt.toNat (by omega)]
    · rw [if_neg c, if_neg c]
  have h2 : ∀ p, wm2 ds A B fs os n x p = wm2 ds A B gs ps n x p := fun p => by
    unfold wm2
    rw [eo, h1 p]
  unfold wm3
  rw [h2 y, h2 (y + 1)]

