/-- two columns alike -/
def sq_al (ds : List Int32) (H a b : Nat) : Prop := ∀ y, y < H → sq_c ds a y = sq_c ds b y
noncomputable def sq_lk (xs : List Int32) (c : Nat) : Int := (xs.getD c 0).toInt
/-- the first of m cords that is like column x; m: none -/
def ck_lk (A : Nat → Nat → Prop) (f : Nat → Int) (x m r : Nat) : Prop := r ≤ m ∧ (∀ c, c < r → ¬ A (f c).toNat x) ∧ (r < m → A (f r).toNat x)
theorem ck_lk.uniq {A : Nat → Nat → Prop} {f g : Nat → Int} {x m r s : Nat} (h : ck_lk A f x m r) (k : ck_lk A g x m s) (e : ∀ c, c < m → f c = g c) : r = s := by
  have h1 := h.1
  have k1 := k.1
  rcases Nat.lt_trichotomy r s with h2 | h2 | h2
  · have q := h.2.2 (by omega)
    rw [e r (by omega)] at q
    exact absurd q (k.2.1 r h2)
  · exact h2
  · have q := k.2.2 (by omega)
    rw [← e s (by omega)] at q
    exact absurd q (h.2.1 s h2)
/-- n columns hang on m cords: f, the first column of a cord; o, the cord of a column -/
def ck (A : Nat → Nat → Prop) (f o : Nat → Int) : Nat → Nat → Prop
  | 0, m => m = 0
  | n + 1, m => ∃ p r, ck A f o n p ∧ ck_lk A f n p r ∧ o n = (r : Int) ∧ ((r = p ∧ f p = (n : Int) ∧ m = p + 1) ∨ (r < p ∧ m = p))
theorem ck.zero {A : Nat → Nat → Prop} {f o : Nat → Int} {n m : Nat} (hn : n = 0) (hm : m = 0) : ck A f o n m := by
  subst hn
  subst hm
  exact (rfl : (0 : Nat) = 0)
theorem ck.bd {A : Nat → Nat → Prop} {f o : Nat → Int} {n : Nat} : ∀ {m : Nat}, ck A f o n m → m ≤ n ∧ (∀ c, c < m → 0 ≤ f c ∧ f c < n) ∧ (∀ j, j < n → 0 ≤ o j ∧ o j < m) := by
  induction n with
  | zero =>
    intro m h
    have h : m = 0 := h
    exact ⟨by omega, fun c hc => by omega, fun j hj => by omega⟩
  | succ n ih =>
    intro m h
    obtain ⟨p, r, h1, h2, h3, h4⟩ := h
    obtain ⟨i1, i2, i3⟩ := ih h1
    have h5 := h2.1
    refine ⟨by omega, fun c hc => ?_, fun j hj => ?_⟩
    · by_cases e : c < p
      · have := i2 c e
        omega
      · have e2 : c = p := by omega
        subst e2
        omega
    · by_cases e : j < n
      · have := i3 j e
        omega
      · have e2 : j = n := by omega
        subst e2
        omega
theorem ck.congr {A : Nat → Nat → Prop} {f o g q : Nat → Int} {n : Nat} : ∀ {m : Nat}, ck A f o n m → (∀ c, c < m → f c = g c) → (∀ j, j < n → o j = q j) → ck A g q n m := by
  induction n with
  | zero =>
    intro m h _ _
    have h : m = 0 := h
    exact ck.zero rfl h
  | succ n ih =>
    intro m h hf ho
    obtain ⟨p, r, h1, h2, h3, h4⟩ := h
    have h5 := h2.1
    refine ⟨p, r, ih h1 (fun c hc => hf c (by omega)) (fun j hj => ho j (by omega)), ⟨h5, fun c hc => ?_, fun hr => ?_⟩, ?_, ?_⟩
    · rw [← hf c (by omega)]
      exact h2.2.1 c hc
    · rw [← hf r (by omega)]
      exact h2.2.2 hr
    · rw [← ho n (by omega)]
      exact h3
    · rcases h4 with ⟨h4, h6, h7⟩ | h4
      · exact Or.inl ⟨h4, by rw [← hf p (by omega)]; exact h6, h7⟩
      · exact Or.inr h4
theorem ck.uniq {A : Nat → Nat → Prop} {f o g q : Nat → Int} {n : Nat} : ∀ {m s : Nat}, ck A f o n m → ck A g q n s → m = s ∧ (∀ c, c < m → f c = g c) ∧ (∀ j, j < n → o j = q j) := by
  induction n with
  | zero =>
    intro m s h k
    have h : m = 0 := h
    have k : s = 0 := k
    exact ⟨by omega, fun c hc => by omega, fun j hj => by omega⟩
  | succ n ih =>
    intro m s h k
    obtain ⟨p, r, h1, h2, h3, h4⟩ := h
    obtain ⟨p', r', k1, k2, k3, k4⟩ := k
    obtain ⟨e1, e2, e3⟩ := ih h1 k1
    subst e1
    have e4 := h2.uniq k2 e2
    subst e4
    refine ⟨by omega, fun c hc => ?_, fun j hj => ?_⟩
    · by_cases e : c < p
      · exact e2 c e
      · have e5 : c = p := by omega
        subst e5
        rcases h4 with ⟨h4, h5, h6⟩ | h4
        · rcases k4 with ⟨k4, k5, k6⟩ | k4
          · rw [h5, k5]
          · omega
        · omega
    · by_cases e : j < n
      · exact e3 j e
      · have e5 : j = n := by omega
        subst e5
        rw [h3, k3]
theorem ck.next {A : Nat → Nat → Prop} {xs9 ys9 xs8 ys8 : List Int32} {n m r M N : Nat} (h : ck A (sq_lk xs9) (sq_lk xs8) n m) (k : ck_lk A (sq_lk xs9) n m r) (hN : N = n + 1) (h9 : ∀ c, c < m → ys9.getD c 0 = xs9.getD c 0) (h8 : ∀ j, j < n → ys8.getD j 0 = xs8.getD j 0) (ho : (ys8.getD n 0).toInt = (r : Int)) (hm : (r = m ∧ (ys9.getD m 0).toInt = (n : Int) ∧ M = m + 1) ∨ (r < m ∧ M = m)) : ck A (sq_lk ys9) (sq_lk ys8) N M := by
  subst hN
  have k1 := k.1
  refine ⟨m, r, h.congr (fun c hc => by unfold sq_lk; rw [h9 c hc]) (fun j hj => by unfold sq_lk; rw [h8 j hj]), ⟨k1, fun c hc => ?_, fun hr => ?_⟩, ho, hm⟩
  · have q := k.2.1 c hc
    unfold sq_lk at q ⊢
    rw [h9 c (by omega)]
    exact q
  · have q := k.2.2 hr
    unfold sq_lk at q ⊢
    rw [h9 r hr]
    exact q
/-- by codes -/
theorem ck_lk.of {ds : List Int32} {cs : List Int64} {H W : Nat} (hcl : sq_cl ds) (hH : H ≤ 20) (hc : ∀ j, j < W → cs[j]? = some (Int64.ofNat (sq_E (pm_colf ds j) H))) {xs : List Int32} {x m r : Nat} {q : Int64} (hx : x < W) (hq : cs[x]? = some q) (hf : ∀ c, c < m → (sq_lk xs c).toNat < W) (h1 : r ≤ m) (h2 : ∀ c, c < r → cs[(sq_lk xs c).toNat]? ≠ some q) (h3 : r < m → cs[(sq_lk xs r).toNat]? = some q) : ck_lk (sq_al ds H) (sq_lk xs) x m r := by
  have hqe : q = Int64.ofNat (sq_E (pm_colf ds x) H) := by
    have e := hc x hx
    rw [hq] at e
    exact Option.some.inj e
  refine ⟨h1, fun c hcr ha => h2 c hcr ?_, fun hr => ?_⟩
  · rw [hc _ (hf c (by omega)), hqe, (sq_cc_iff hcl hH).mpr ha]
  · have e := h3 hr
    rw [hc _ (hf r hr), hqe] at e
    exact (sq_cc_iff hcl hH).mp (Option.some.inj e)
/-- the reference's search -/
def ck_in (A : Nat → Nat → Prop) (f : Nat → Int) (x m l : Nat) (v : Int) : Prop := (v = -1 ∧ l ≤ m ∧ ∀ c, c < l → ¬ A (f c).toNat x) ∨ (∃ r : Nat, v = (r : Int) ∧ r < m ∧ (∀ c, c < r → ¬ A (f c).toNat x) ∧ A (f r).toNat x)
theorem ck_in.none {A : Nat → Nat → Prop} {f : Nat → Int} {x m l : Nat} {v : Int} (h : ck_in A f x m l v) (hv : v < 0) (hl : m ≤ l) : ck_lk A f x m m := by
  rcases h with ⟨-, h1, h2⟩ | ⟨r, h1, -⟩
  · exact ⟨Nat.le_refl _, fun c hc => h2 c (by omega), fun h => absurd h (Nat.lt_irrefl _)⟩
  · omega
theorem ck_in.some {A : Nat → Nat → Prop} {f : Nat → Int} {x m l : Nat} {v : Int} (h : ck_in A f x m l v) (hv : 0 ≤ v) : ck_lk A f x m v.toNat ∧ v.toNat < m := by
  rcases h with ⟨h1, -⟩ | ⟨r, h1, h2, h3, h4⟩
  · omega
  · subst h1
    exact ⟨⟨Nat.le_of_lt h2, h3, fun _ => h4⟩, h2⟩
/-- what the calls answer -/
def sq_ck (gi : Nat → Int32) (ga : Nat → List Int32) (fs os : List Int32) (m : Nat) : Prop := ck (sq_al (ga 15) (gi 1).toInt.toNat) (sq_lk fs) (sq_lk os) (gi 0).toInt.toNat m
def sq_good (k a b : Int32) (m : Nat) : Prop := 0 ≤ a.toInt ∧ a.toInt < m ∧ (k.toInt = 1 ∨ (0 ≤ b.toInt ∧ b.toInt < m ∧ ¬ a.toInt = b.toInt))
def sq_Pcan (gi : Nat → Int32) (ga : Nat → List Int32) (k a b v : Int32) : Prop := (k.toInt = 2 ∧ ((v.toInt = 1 ∧ 0 ≤ a.toInt ∧ a.toInt < (gi 1).toInt) ∨ (v.toInt = 0 ∧ ¬ (0 ≤ a.toInt ∧ a.toInt < (gi 1).toInt)))) ∨ (¬ k.toInt = 2 ∧ ∃ fs os m, sq_ck gi ga fs os m ∧ ((v.toInt = 1 ∧ sq_good k a b m) ∨ (v.toInt = 0 ∧ ¬ sq_good k a b m)))
def sq_Pfault (gi : Nat → Int32) (ga : Nat → List Int32) (k a b v : Int32) : Prop := (¬ (1 ≤ k.toInt ∧ k.toInt ≤ 3) ∧ v.toInt = -2) ∨ ((1 ≤ k.toInt ∧ k.toInt ≤ 3) ∧ ((k.toInt = 2 ∧ ((v.toInt = 1 ∧ 0 ≤ a.toInt ∧ a.toInt < (gi 1).toInt) ∨ (v.toInt = -1 ∧ ¬ (0 ≤ a.toInt ∧ a.toInt < (gi 1).toInt)))) ∨ (¬ k.toInt = 2 ∧ ∃ fs os m, sq_ck gi ga fs os m ∧ ((v.toInt = 1 ∧ sq_good k a b m) ∨ (v.toInt = -1 ∧ ¬ sq_good k a b m)))))
theorem rel_fault {gi : Nat → Int32} {ga : Nat → List Int32} {k a b v u : Int32} (h : sq_Pfault gi ga k a b v) (g : sq_Pfault gi ga k a b u) : v = u := by
  refine i_eq.mpr ?_
  rcases h with ⟨h0, h1⟩ | ⟨h0, h1⟩
  · rcases g with ⟨k0, k1⟩ | ⟨k0, -⟩
    · omega
    · exact absurd k0 h0
  · rcases g with ⟨k0, k1⟩ | ⟨k0, k1⟩
    · exact absurd h0 k0
    · rcases h1 with ⟨h2, h3⟩ | ⟨h2, fs, os, m, h3, h4⟩
      · rcases k1 with ⟨k2, k3⟩ | ⟨k2, -⟩
        · omega
        · exact absurd h2 k2
      · rcases k1 with ⟨k2, -⟩ | ⟨k2, gs, ps, n, k3, k4⟩
        · exact absurd k2 h2
        · have e := (ck.uniq h3 k3).1
          subst e
          rcases h4 with ⟨h5, h6⟩ | ⟨h5, h6⟩
          · rcases k4 with ⟨k5, k6⟩ | ⟨k5, k6⟩
            · omega
            · exact absurd h6 k6
          · rcases k4 with ⟨k5, k6⟩ | ⟨k5, k6⟩
            · exact absurd k6 h6
            · omega

