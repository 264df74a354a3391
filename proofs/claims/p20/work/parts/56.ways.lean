def pm_fac (w r : Int) : Prop := (r = 0 ∧ w = 1) ∨ (r = 1 ∧ w = 1) ∨ (r = 2 ∧ w = 2) ∨ (r = 3 ∧ w = 6) ∨ (r = 4 ∧ w = 24) ∨ (r = 5 ∧ w = 120) ∨ (r = 6 ∧ w = 720) ∨ (r = 7 ∧ w = 5040)
def pm_ltf (k r : Int) : Prop := ∀ w, pm_fac w r → k < w
theorem pm_fac.rng {w r : Int} (h : pm_fac w r) : 1 ≤ w ∧ w ≤ 5040 ∧ 0 ≤ r ∧ r ≤ 7 := by unfold pm_fac at h; omega
theorem pm_fac.eq {w v r : Int} (h : pm_fac w r) (g : pm_fac v r) : v = w := by
  rcases h with h | h | h | h | h | h | h | h <;> rcases g with g | g | g | g | g | g | g | g <;> omega
theorem pm_fac.ltf {w k r : Int} (h : pm_fac w r) (hk : k < w) : pm_ltf k r := fun v hv => by rw [h.eq hv]; exact hk
theorem pm_fac.out {w i m : Int} (h : pm_fac w (i - 1)) (h1 : i ≤ m + 1 ∨ i = 2) (h2 : m < i) (h3 : 0 ≤ m) : pm_fac w m := by
  rcases h1 with h1 | h1
  · rw [show m = i - 1 by omega]
    exact h
  · have hw : w = 1 := by rcases h with g | g | g | g | g | g | g | g <;> omega
    rcases (show m = 0 ∨ m = 1 by omega) with e | e
    · exact Or.inl ⟨e, hw⟩
    · exact Or.inr (Or.inl ⟨e, hw⟩)
section PmFac
variable {sc : pm_S} {d mi pc nx a b c f : Nat} {ls st : List Value} {w : pm_W} {Q : Option Value → pm_W → Prop}
theorem r_facmul {x y : Int32} (hc : pm_code mi pc = some (.imul, nx, a, b, c, f)) (h : pm_fac x.toInt (y.toInt - 1)) (h1 : 2 ≤ y.toInt) (h2 : y.toInt ≤ 7) (k : ∀ z : Int32, pm_fac z.toInt y.toInt → pm_V sc d mi nx ls (.int z :: st) w Q) : pm_V sc d mi pc ls (.int y :: .int x :: st) w Q := v_imul hc (k _ (by
  have key : ∀ p q : Int, x.toInt = p → y.toInt = q → -2147483648 ≤ p * q → p * q ≤ 2147483647 → (x * y).toInt = p * q := fun p q e1 e2 g1 g2 => j_mul (by rw [e1, e2]) g1 g2
  rcases h with ⟨e, g⟩ | ⟨e, g⟩ | ⟨e, g⟩ | ⟨e, g⟩ | ⟨e, g⟩ | ⟨e, g⟩ | ⟨e, g⟩ | ⟨e, g⟩
  · omega
  · have e : y.toInt = 2 := by omega
    rw [key _ _ g e (by decide) (by decide), e]
    exact Or.inr (Or.inr (Or.inl ⟨rfl, by decide⟩))
  · have e : y.toInt = 3 := by omega
    rw [key _ _ g e (by decide) (by decide), e]
    exact Or.inr (Or.inr (Or.inr (Or.inl ⟨rfl, by decide⟩)))
  · have e : y.toInt = 4 := by omega
    rw [key _ _ g e (by decide) (by decide), e]
    exact Or.inr (Or.inr (Or.inr (Or.inr (Or.inl ⟨rfl, by decide⟩))))
  · have e : y.toInt = 5 := by omega
    rw [key _ _ g e (by decide) (by decide), e]
    exact Or.inr (Or.inr (Or.inr (Or.inr (Or.inr (Or.inl ⟨rfl, by decide⟩)))))
  · have e : y.toInt = 6 := by omega
    rw [key _ _ g e (by decide) (by decide), e]
    exact Or.inr (Or.inr (Or.inr (Or.inr (Or.inr (Or.inr (Or.inl ⟨rfl, by decide⟩))))))
  · have e : y.toInt = 7 := by omega
    rw [key _ _ g e (by decide) (by decide), e]
    exact Or.inr (Or.inr (Or.inr (Or.inr (Or.inr (Or.inr (Or.inr (⟨rfl, by decide⟩)))))))
  · omega))
theorem r_facdiv {x y : Int32} (hc : pm_code mi pc = some (.idiv, nx, a, b, c, f)) (h : pm_fac x.toInt y.toInt) (h1 : 1 ≤ y.toInt) (k : ∀ z : Int32, pm_fac z.toInt (y.toInt - 1) → pm_V sc d mi nx ls (.int z :: st) w Q) : pm_V sc d mi pc ls (.int y :: .int x :: st) w Q := by
  have hr := h.rng
  refine r_idiv hc (by omega) (by omega) (fun z zm _ _ => k z ?_)
  rcases h with ⟨e, g⟩ | ⟨e, g⟩ | ⟨e, g⟩ | ⟨e, g⟩ | ⟨e, g⟩ | ⟨e, g⟩ | ⟨e, g⟩ | ⟨e, g⟩
  · omega
  · rw [e, g] at zm
    rw [zm, e]
    exact Or.inl ⟨by decide, by decide⟩
  · rw [e, g] at zm
    rw [zm, e]
    exact Or.inr (Or.inl ⟨by decide, by decide⟩)
  · rw [e, g] at zm
    rw [zm, e]
    exact Or.inr (Or.inr (Or.inl ⟨by decide, by decide⟩))
  · rw [e, g] at zm
    rw [zm, e]
    exact Or.inr (Or.inr (Or.inr (Or.inl ⟨by decide, by decide⟩)))
  · rw [e, g] at zm
    rw [zm, e]
    exact Or.inr (Or.inr (Or.inr (Or.inr (Or.inl ⟨by decide, by decide⟩))))
  · rw [e, g] at zm
    rw [zm, e]
    exact Or.inr (Or.inr (Or.inr (Or.inr (Or.inr (Or.inl ⟨by decide, by decide⟩)))))
  · rw [e, g] at zm
    rw [zm, e]
    exact Or.inr (Or.inr (Or.inr (Or.inr (Or.inr (Or.inr (Or.inl ⟨by decide, by decide⟩))))))
theorem r_facskip {x y : Int32} {r : Int} (hc : pm_code mi pc = some (.idiv, nx, a, b, c, f)) (hx : 0 ≤ x.toInt) (h : pm_fac y.toInt (r - 1)) (hl : pm_ltf x.toInt r) (hr7 : r ≤ 7) (k : ∀ z : Int32, 0 ≤ z.toInt → z.toInt ≤ r - 1 → pm_V sc d mi nx ls (.int z :: st) w Q) : pm_V sc d mi pc ls (.int y :: .int x :: st) w Q := by
  have hr := h.rng
  refine r_idiv hc hx (by omega) (fun z zm za _ => k z za ?_)
  rcases h with ⟨e, g⟩ | ⟨e, g⟩ | ⟨e, g⟩ | ⟨e, g⟩ | ⟨e, g⟩ | ⟨e, g⟩ | ⟨e, g⟩ | ⟨e, g⟩
  · have := hl 1 (Or.inr (Or.inl ⟨by omega, rfl⟩)); rw [g] at zm; omega
  · have := hl 2 (Or.inr (Or.inr (Or.inl ⟨by omega, rfl⟩))); rw [g] at zm; omega
  · have := hl 6 (Or.inr (Or.inr (Or.inr (Or.inl ⟨by omega, rfl⟩)))); rw [g] at zm; omega
  · have := hl 24 (Or.inr (Or.inr (Or.inr (Or.inr (Or.inl ⟨by omega, rfl⟩))))); rw [g] at zm; omega
  · have := hl 120 (Or.inr (Or.inr (Or.inr (Or.inr (Or.inr (Or.inl ⟨by omega, rfl⟩)))))); rw [g] at zm; omega
  · have := hl 720 (Or.inr (Or.inr (Or.inr (Or.inr (Or.inr (Or.inr (Or.inl ⟨by omega, rfl⟩))))))); rw [g] at zm; omega
  · have := hl 5040 (Or.inr (Or.inr (Or.inr (Or.inr (Or.inr (Or.inr (Or.inr (⟨by omega, rfl⟩)))))))); rw [g] at zm; omega
  · omega
end PmFac
/-- free places from a on -/
noncomputable def pm_fr (t a : Nat) : Nat → Nat
  | 0 => 0
  | m + 1 => pm_fr t a m + (if a ≤ m ∧ t.testBit m = false then 1 else 0)
theorem pm_fr_A {t a : Nat} (h : t.testBit a = true) (m : Nat) : pm_fr t a m ≤ pm_fr t (a + 1) m := by
  induction m with
  | zero => exact Nat.le_refl _
  | succ m ih =>
    show pm_fr t a m + (if a ≤ m ∧ t.testBit m = false then 1 else 0) ≤ pm_fr t (a + 1) m + (if a + 1 ≤ m ∧ t.testBit m = false then 1 else 0)
    by_cases e : a ≤ m ∧ t.testBit m = false
    · have h1 : a + 1 ≤ m := by
        rcases Nat.lt_or_eq_of_le e.1 with g | g
        · exact g
        · subst g; rw [h] at e; exact absurd e.2 (by decide)
      rw [if_pos e, if_pos ⟨h1, e.2⟩]; omega
    · rw [if_neg e]; omega
theorem pm_fr_B {t a : Nat} (m : Nat) : pm_fr t a m ≤ pm_fr t (a + 1) m + (if a < m then 1 else 0) := by
  induction m with
  | zero => exact Nat.zero_le _
  | succ m ih =>
    show pm_fr t a m + (if a ≤ m ∧ t.testBit m = false then 1 else 0) ≤ pm_fr t (a + 1) m + (if a + 1 ≤ m ∧ t.testBit m = false then 1 else 0) + (if a < m + 1 then 1 else 0)
    by_cases e : a = m
    · subst e
      rw [if_neg (Nat.lt_irrefl a)] at ih
      rw [if_pos (show a < a + 1 by omega)]
      split <;> omega
    · by_cases c : a < m
      · rw [if_pos c] at ih
        rw [if_pos (show a < m + 1 by omega)]
        by_cases b : t.testBit m = false
        · rw [if_pos ⟨by omega, b⟩, if_pos ⟨by omega, b⟩]; omega
        · rw [if_neg (fun x => b x.2), if_neg (fun x => b x.2)]; omega
      · rw [if_neg c] at ih
        rw [if_neg (show ¬ (a ≤ m ∧ t.testBit m = false) from fun x => by omega)]
        omega
theorem pm_fr_C {t a : Nat} (m : Nat) (h : m ≤ a) : pm_fr t a m = 0 := by
  induction m with
  | zero => rfl
  | succ m ih =>
    show pm_fr t a m + (if a ≤ m ∧ t.testBit m = false then 1 else 0) = 0
    rw [ih (by omega), if_neg (fun x => by omega)]
theorem pm_fr_D {t a : Nat} (m : Nat) : pm_fr t 0 m ≤ pm_fr (t ||| 2 ^ a) 0 m + (if a < m then 1 else 0) := by
  induction m with
  | zero => exact Nat.zero_le _
  | succ m ih =>
    show pm_fr t 0 m + (if 0 ≤ m ∧ t.testBit m = false then 1 else 0) ≤ pm_fr (t ||| 2 ^ a) 0 m + (if 0 ≤ m ∧ (t ||| 2 ^ a).testBit m = false then 1 else 0) + (if a < m + 1 then 1 else 0)
    by_cases e : a = m
    · subst e
      rw [if_neg (Nat.lt_irrefl a)] at ih
      rw [if_pos (show a < a + 1 by omega)]
      split <;> omega
    · have hb : (t ||| 2 ^ a).testBit m = t.testBit m := by
        rw [Nat.testBit_or, Nat.testBit_two_pow_of_ne e, Bool.or_false]
      rw [hb]
      by_cases c : a < m
      · rw [if_pos c] at ih
        rw [if_pos (show a < m + 1 by omega)]
        omega
      · rw [if_neg c] at ih
        omega
theorem pm_fr_step : ∀ t, t < 128 → ∀ a, a < 8 → ∀ m, m < 8 → (t.testBit a = true → pm_fr t a m ≤ pm_fr t (a + 1) m) ∧ pm_fr t a m ≤ pm_fr t (a + 1) m + 1 ∧ (1 ≤ pm_fr t a m → a < m) := fun t _ a _ m _ => ⟨fun h => pm_fr_A h m, by have := pm_fr_B (t := t) (a := a) m; split at this <;> omega, fun h => by
  false_or_by_contra
  rw [pm_fr_C m (by omega)] at h
  omega⟩

