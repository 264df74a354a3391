section PmIx
variable {sc : pm_S} {d mi pc nx a b c f : Nat} {ls st : List Value} {w : pm_W} {Q : Option Value → pm_W → Prop}
end PmIx
/-- two columns alike -/
def sq_al (ds : List Int32) (H a b : Nat) : Prop := ∀ y, y < H → sq_c ds a y = sq_c ds b y
noncomputable def sq_lk (xs : List Int32) (c : Nat) : Int := (xs.getD c 0).toInt
/-- the first of m cords that is like column x; m: none -/
def ck_lk (A : Nat → Nat → Prop) (f : Nat → Int) (x m r : Nat) : Prop := r ≤ m ∧ (∀ c, c < r → ¬ A (f c).toNat x) ∧ (r < m → A (f r).toNat x)
/-- n columns hang on m cords: f, the first column of a cord; o, the cord of a column -/
def ck (A : Nat → Nat → Prop) (f o : Nat → Int) : Nat → Nat → Prop
  | 0, m => m = 0
  | n + 1, m => ∃ p r, ck A f o n p ∧ ck_lk A f n p r ∧ o n = (r : Int) ∧ ((r = p ∧ f p = (n : Int) ∧ m = p + 1) ∨ (r < p ∧ m = p))
theorem ck.zero {A : Nat → Nat → Prop} {f o : Nat → Int} {n m : Nat} (hn : n = 0) (hm : m = 0) : ck A f o n m := by
  subst hn
  subst hm
  exact (rfl : (0 : Nat) = 0)
theorem ck.congr {A : Nat → Nat → Prop} {f o g q : Nat → Int} {n : Nat} : ∀ {m : Nat}, ck A f o n m → (∀ c, c < m → f c = g c) → (∀ j, j < n → o j = q j) → ck A g q n m := by
  induction n with
  | zero =>
    intro m h _ _
    have h : m = 0 := h
    exact ck.zero rfl h
  | succ n ih =>
    intro m h hf ho
    obtain ⟨p, r, h1, h2, h3, h4⟩ := h
    have h5 := h2.1
    refine ⟨p, r, ih h1 (fun c hc => hf c (by omega)) (fun j hj => ho j (by omega)), ⟨h5, fun c hc => ?_, fun hr => ?_⟩, ?_, ?_⟩
    · rw [← hf c (by omega)]
      exact h2.2.1 c hc
    · rw [← hf r (by omega)]
      exact h2.2.2 hr
    · rw [← ho n (by omega)]
      exact h3
    · rcases h4 with ⟨h4, h6, h7⟩ | h4
      · exact Or.inl ⟨h4, by rw [← hf p (by omega)]; exact h6, h7⟩
      · exact Or.inr h4
theorem ck.next {A : Nat → Nat → Prop} {xs9 ys9 xs8 ys8 : List Int32} {n m r M N : Nat} (h : ck A (sq_lk xs9) (sq_lk xs8) n m) (k : ck_lk A (sq_lk xs9) n m r) (hN : N = n + 1) (h9 : ∀ c, c < m → ys9.getD c 0 = xs9.getD c 0) (h8 : ∀ j, j < n → ys8.getD j 0 = xs8.getD j 0) (ho : (ys8.getD n 0).toInt = (r : Int)) (hm : (r = m ∧ (ys9.getD m 0).toInt = (n : Int) ∧ M = m + 1) ∨ (r < m ∧ M = m)) : ck A (sq_lk ys9) (sq_lk ys8) N M := by
  subst hN
  have k1 := k.1
  refine ⟨m, r, h.congr (fun c hc => by unfold sq_lk; rw [h9 c hc]) (fun j hj => by unfold sq_lk; rw [h8 j hj]), ⟨k1, fun c hc => ?_, fun hr => ?_⟩, ho, hm⟩
  · have q := k.2.1 c hc
    unfold sq_lk at q ⊢
    rw [h9 c (by omega)]
    exact q
  · have q := k.2.2 hr
    unfold sq_lk at q ⊢
    rw [h9 r hr]
    exact q
/-- by codes -/
theorem ck_lk.of {ds : List Int32} {cs : List Int64} {H W : Nat} (hcl : sq_cl ds) (hH : H ≤ 20) (hc : ∀ j, j < W → cs[j]? = some (Int64.ofNat (sq_E (pm_colf ds j) H))) {xs : List Int32} {x m r : Nat} {q : Int64} (hx : x < W) (hq : cs[x]? = some q) (hf : ∀ c, c < m → (sq_lk xs c).toNat < W) (h1 : r ≤ m) (h2 : ∀ c, c < r → cs[(sq_lk xs c).toNat]? ≠ some q) (h3 : r < m → cs[(sq_lk xs r).toNat]? = some q) : ck_lk (sq_al ds H) (sq_lk xs) x m r := by
  have hqe : q = Int64.ofNat (sq_E (pm_colf ds x) H) := by
    have e := hc x hx
    rw [hq] at e
    exact Option.some.inj e
  refine ⟨h1, fun c hcr ha => h2 c hcr ?_, fun hr => ?_⟩
  · rw [hc _ (hf c (by omega)), hqe, (sq_cc_iff hcl hH).mpr ha]
  · have e := h3 hr
    rw [hc _ (hf r hr), hqe] at e
    exact (sq_cc_iff hcl hH).mp (Option.some.inj e)
/-- the reference's search -/
def ck_in (A : Nat → Nat → Prop) (f : Nat → Int) (x m l : Nat) (v : Int) : Prop := (v = -1 ∧ l ≤ m ∧ ∀ c, c < l → ¬ A (f c).toNat x) ∨ (∃ r : Nat, v = (r : Int) ∧ r < m ∧ (∀ c, c < r → ¬ A (f c).toNat x) ∧ A (f r).toNat x)
theorem ck_in.none {A : Nat → Nat → Prop} {f : Nat → Int} {x m l : Nat} {v : Int} (h : ck_in A f x m l v) (hv : v < 0) (hl : m ≤ l) : ck_lk A f x m m := by
  rcases h with ⟨-, h1, h2⟩ | ⟨r, h1, -⟩
  · exact ⟨Nat.le_refl _, fun c hc => h2 c (by omega), fun h => absurd h (Nat.lt_irrefl _)⟩
  · omega
theorem ck_in.some {A : Nat → Nat → Prop} {f : Nat → Int} {x m l : Nat} {v : Int} (h : ck_in A f x m l v) (hv : 0 ≤ v) : ck_lk A f x m v.toNat ∧ v.toNat < m := by
  rcases h with ⟨h1, -⟩ | ⟨r, h1, h2, h3, h4⟩
  · omega
  · subst h1
    exact ⟨⟨Nat.le_of_lt h2, h3, fun _ => h4⟩, h2⟩
