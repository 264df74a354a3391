/-- k columns of a walk x, from a run of s on: the run that goes on, the mended columns as a number, how many they are; pt: a run begins; ok: it may be mended; mu: it must be -/
def md_R (L s : Nat) (pt ok mu : Nat → Prop) (x : Nat → Nat) : Nat → Nat → Nat → Nat → Prop
  | 0, n, S, c => n = s ∧ S = 0 ∧ c = 0
  | k + 1, n, S, c => (ok k ∧ n = 0 ∧ ∃ m T b, md_R L s pt ok mu x k m T b ∧ S = T + 2 ^ x k ∧ c = b + 1) ∨ (¬ mu k ∧ n ≤ L ∧ ∃ m, md_R L s pt ok mu x k m S c ∧ ((pt k ∧ n = 1) ∨ (¬ pt k ∧ n = m + 1)))
theorem md_R.z {L s : Nat} {pt ok mu : Nat → Prop} {x : Nat → Nat} {n S c : Nat} : md_R L s pt ok mu x 0 n S c ↔ (n = s ∧ S = 0 ∧ c = 0) := Iff.rfl
theorem md_R.s {L s : Nat} {pt ok mu : Nat → Prop} {x : Nat → Nat} {k n S c : Nat} : md_R L s pt ok mu x (k + 1) n S c ↔ ((ok k ∧ n = 0 ∧ ∃ m T b, md_R L s pt ok mu x k m T b ∧ S = T + 2 ^ x k ∧ c = b + 1) ∨ (¬ mu k ∧ n ≤ L ∧ ∃ m, md_R L s pt ok mu x k m S c ∧ ((pt k ∧ n = 1) ∨ (¬ pt k ∧ n = m + 1)))) := Iff.rfl
theorem md_R.le {L s : Nat} {pt ok mu : Nat → Prop} {x : Nat → Nat} {k n S c : Nat} (hs : s ≤ L) (h : md_R L s pt ok mu x k n S c) : n ≤ L := by
  cases k with
  | zero =>
    have h := md_R.z.mp h
    omega
  | succ k =>
    rcases md_R.s.mp h with ⟨-, h1, -⟩ | ⟨-, h1, -⟩
    · omega
    · exact h1
theorem md_R.cnt {L s : Nat} {pt ok mu : Nat → Prop} {x : Nat → Nat} : ∀ {k n S c : Nat}, md_R L s pt ok mu x k n S c → c ≤ k := fun {k} => by
  induction k with
  | zero =>
    intro n S c h
    have h := md_R.z.mp h
    omega
  | succ k ih =>
    intro n S c h
    rcases md_R.s.mp h with ⟨-, -, m, T, b, h1, -, h2⟩ | ⟨-, -, m, h1, -⟩
    · have := ih h1
      omega
    · have := ih h1
      omega
theorem md_R.congr {L s : Nat} {pt ok mu pt' ok' mu' : Nat → Prop} {x x' : Nat → Nat} : ∀ k, (∀ j, j < k → x' j = x j ∧ (pt' j ↔ pt j) ∧ (ok' j ↔ ok j) ∧ (mu' j ↔ mu j)) → ∀ n S c, md_R L s pt ok mu x k n S c → md_R L s pt' ok' mu' x' k n S c := fun k => by
  induction k with
  | zero => intro _ n S c h; exact md_R.z.mpr (md_R.z.mp h)
  | succ k ih =>
    intro e n S c h
    obtain ⟨e1, e2, e3, e4⟩ := e k (Nat.lt_add_one k)
    have ih2 := ih (fun j hj => e j (by omega))
    refine md_R.s.mpr ?_
    rcases md_R.s.mp h with ⟨h1, h2, m, T, b, h3, h4, h5⟩ | ⟨h1, h2, m, h3, h4⟩
    · exact Or.inl ⟨e3.mpr h1, h2, m, T, b, ih2 _ _ _ h3, by rw [e1]; exact h4, h5⟩
    · refine Or.inr ⟨fun q => h1 (e4.mp q), h2, m, ih2 _ _ _ h3, ?_⟩
      rcases h4 with ⟨q1, q2⟩ | ⟨q1, q2⟩
      · exact Or.inl ⟨e2.mpr q1, q2⟩
      · exact Or.inr ⟨fun q => q1 (e2.mp q), q2⟩
/-- in two pieces -/
theorem md_R.split {L s : Nat} {pt ok mu : Nat → Prop} {x : Nat → Nat} (p : Nat) : ∀ q n S c, md_R L s pt ok mu x (p + q) n S c ↔ ∃ m T b S2 c2, md_R L s pt ok mu x p m T b ∧ md_R L m (fun j => pt (p + j)) (fun j => ok (p + j)) (fun j => mu (p + j)) (fun j => x (p + j)) q n S2 c2 ∧ S = T + S2 ∧ c = b + c2 := fun q => by
  induction q with
  | zero =>
    intro n S c
    constructor
    · intro h
      exact ⟨n, S, c, 0, 0, h, md_R.z.mpr ⟨rfl, rfl, rfl⟩, rfl, rfl⟩
    · intro h
      obtain ⟨m, T, b, S2, c2, h1, h2, h3, h4⟩ := h
      obtain ⟨e1, e2, e3⟩ := md_R.z.mp h2
      subst e1
      subst e2
      subst e3
      subst h3
      subst h4
      exact h1
  | succ q ih =>
    intro n S c
    rw [show p + (q + 1) = (p + q) + 1 from rfl]
    constructor
    · intro h
      rcases md_R.s.mp h with ⟨h1, h2, m, T, b, h3, h4, h5⟩ | ⟨h1, h2, m, h3, h4⟩
      · obtain ⟨m1, T1, b1, S2, c2, g1, g2, g3, g4⟩ := (ih m T b).mp h3
        exact ⟨m1, T1, b1, S2 + 2 ^ x (p + q), c2 + 1, g1, md_R.s.mpr (Or.inl ⟨h1, h2, m, S2, c2, g2, rfl, rfl⟩), by omega, by omega⟩
      · obtain ⟨m1, T1, b1, S2, c2, g1, g2, g3, g4⟩ := (ih m S c).mp h3
        exact ⟨m1, T1, b1, S2, c2, g1, md_R.s.mpr (Or.inr ⟨h1, h2, m, g2, h4⟩), g3, g4⟩
    · intro h
      obtain ⟨m1, T1, b1, S2, c2, g1, g2, g3, g4⟩ := h
      refine md_R.s.mpr ?_
      rcases md_R.s.mp g2 with ⟨h1, h2, m, T, b, h3, h4, h5⟩ | ⟨h1, h2, m, h3, h4⟩
      · have h4 : S2 = T + 2 ^ x (p + q) := h4
        exact Or.inl ⟨h1, h2, m, T1 + T, b1 + b, (ih m (T1 + T) (b1 + b)).mpr ⟨m1, T1, b1, T, b, g1, h3, rfl, rfl⟩, by omega, by omega⟩
      · exact Or.inr ⟨h1, h2, m, (ih m S c).mpr ⟨m1, T1, b1, S2, c2, g1, h3, g3, g4⟩, h4⟩
/-- where a run begins it doesn't matter what went ahead -/
theorem md_R.reset {L s s' : Nat} {pt ok mu : Nat → Prop} {x : Nat → Nat} (h0 : pt 0) : ∀ q n S c, md_R L s pt ok mu x (q + 1) n S c → md_R L s' pt ok mu x (q + 1) n S c := fun q => by
  induction q with
  | zero =>
    intro n S c h
    refine md_R.s.mpr ?_
    rcases md_R.s.mp h with ⟨h1, h2, m, T, b, h3, h4, h5⟩ | ⟨h1, h2, m, h3, h4⟩
    · obtain ⟨e1, e2, e3⟩ := md_R.z.mp h3
      exact Or.inl ⟨h1, h2, s', T, b, md_R.z.mpr ⟨rfl, e2, e3⟩, h4, h5⟩
    · obtain ⟨e1, e2, e3⟩ := md_R.z.mp h3
      refine Or.inr ⟨h1, h2, s', md_R.z.mpr ⟨rfl, e2, e3⟩, Or.inl ⟨h0, ?_⟩⟩
      rcases h4 with ⟨-, q2⟩ | ⟨q1, -⟩
      · exact q2
      · exact absurd h0 q1
  | succ q ih =>
    intro n S c h
    refine md_R.s.mpr ?_
    rcases md_R.s.mp h with ⟨h1, h2, m, T, b, h3, h4, h5⟩ | ⟨h1, h2, m, h3, h4⟩
    · exact Or.inl ⟨h1, h2, m, T, b, ih _ _ _ h3, h4, h5⟩
    · exact Or.inr ⟨h1, h2, m, ih _ _ _ h3, h4⟩
/-- all columns one to the left -/
theorem md_R.shift {L s : Nat} {pt ok mu : Nat → Prop} {x x' : Nat → Nat} : ∀ k, (∀ j, j < k → x j = x' j + 1) → ∀ n S c, md_R L s pt ok mu x k n S c → ∃ T, S = 2 * T ∧ md_R L s pt ok mu x' k n T c := fun k => by
  induction k with
  | zero =>
    intro _ n S c h
    obtain ⟨e1, e2, e3⟩ := md_R.z.mp h
    exact ⟨0, by omega, md_R.z.mpr ⟨e1, rfl, e3⟩⟩
  | succ k ih =>
    intro e n S c h
    have e1 := e k (Nat.lt_add_one k)
    have ih2 := ih (fun j hj => e j (by omega))
    rcases md_R.s.mp h with ⟨h1, h2, m, T, b, h3, h4, h5⟩ | ⟨h1, h2, m, h3, h4⟩
    · obtain ⟨T2, g1, g2⟩ := ih2 _ _ _ h3
      refine ⟨T2 + 2 ^ x' k, ?_, md_R.s.mpr (Or.inl ⟨h1, h2, m, T2, b, g2, rfl, h5⟩)⟩
      rw [h4, e1, Nat.pow_succ, g1]
      omega
    · obtain ⟨T2, g1, g2⟩ := ih2 _ _ _ h3
      exact ⟨T2, g1, md_R.s.mpr (Or.inr ⟨h1, h2, m, g2, h4⟩)⟩
/-- a bit more -/
theorem md_ab : ∀ (i T : Nat), T.testBit i = false → ∀ j, (T + 2 ^ i).testBit j = (T.testBit j || decide (i = j)) := fun i => by
  induction i with
  | zero =>
    intro T h j
    rw [Nat.testBit_zero] at h
    have h := of_decide_eq_false h
    cases j with
    | zero =>
      rw [Nat.testBit_zero, Nat.testBit_zero, decide_eq_true (show (T + 2 ^ 0) % 2 = 1 by omega), decide_eq_true (show (0 : Nat) = 0 from rfl), Bool.or_true]
    | succ j =>
      rw [Nat.testBit_add_one, Nat.testBit_add_one, show (T + 2 ^ 0) / 2 = T / 2 by omega, decide_eq_false (show ¬ 0 = j + 1 by omega), Bool.or_false]
  | succ i ih =>
    intro T h j
    rw [Nat.testBit_add_one] at h
    have e : 2 ^ (i + 1) = 2 * 2 ^ i := by rw [Nat.pow_succ, Nat.mul_comm]
    rw [e]
    cases j with
    | zero =>
      rw [Nat.testBit_zero, Nat.testBit_zero, show (T + 2 * 2 ^ i) % 2 = T % 2 by omega, decide_eq_false (show ¬ i + 1 = 0 by omega), Bool.or_false]
    | succ j =>
      rw [Nat.testBit_add_one, Nat.testBit_add_one, show (T + 2 * 2 ^ i) / 2 = T / 2 + 2 ^ i by omega, ih (T / 2) h j, show decide (i = j) = decide (i + 1 = j + 1) from decide_eq_decide.mpr ⟨fun q => by omega, fun q => by omega⟩]
theorem md_or {T i : Nat} (h : T.testBit i = false) : T ||| 2 ^ i = T + 2 ^ i := Nat.eq_of_testBit_eq (fun j => by
  rw [Nat.testBit_or, md_ab i T h j, Nat.testBit_two_pow])
/-- which columns are mended -/
theorem md_R.bit {L s : Nat} {pt ok mu : Nat → Prop} {x : Nat → Nat} : ∀ {k : Nat}, (∀ i j, i < k → j < k → x i = x j → i = j) → ∀ {n S c : Nat}, md_R L s pt ok mu x k n S c → ∀ b, S.testBit b = true → ∃ j, j < k ∧ x j = b := fun {k} => by
  induction k with
  | zero =>
    intro _ n S c h b hb
    obtain ⟨e1, e2, e3⟩ := md_R.z.mp h
    subst e2
    rw [Nat.zero_testBit] at hb
    exact absurd hb (by decide)
  | succ k ih =>
    intro hx n S c h b hb
    have ih2 := fun {n S c : Nat} (g : md_R L s pt ok mu x k n S c) => ih (fun i j hi hj => hx i j (by omega) (by omega)) g
    rcases md_R.s.mp h with ⟨h1, h2, m, T, d, h3, h4, h5⟩ | ⟨h1, h2, m, h3, h4⟩
    · have hT : T.testBit (x k) = false := by
        cases q : T.testBit (x k) with
        | false => rfl
        | true =>
          obtain ⟨j, j1, j2⟩ := ih2 h3 _ q
          have := hx j k (by omega) (by omega) j2
          omega
      rw [h4, md_ab _ _ hT, Bool.or_eq_true] at hb
      rcases hb with hb | hb
      · obtain ⟨j, j1, j2⟩ := ih2 h3 _ hb
        exact ⟨j, by omega, j2⟩
      · exact ⟨k, by omega, of_decide_eq_true hb⟩
    · obtain ⟨j, j1, j2⟩ := ih2 h3 _ hb
      exact ⟨j, by omega, j2⟩
theorem md_R.nb {L s : Nat} {pt ok mu : Nat → Prop} {x : Nat → Nat} {k n S c : Nat} (hx : ∀ i j, i < k + 1 → j < k + 1 → x i = x j → i = j) (h : md_R L s pt ok mu x k n S c) : S.testBit (x k) = false := by
  cases q : S.testBit (x k) with
  | false => rfl
  | true =>
    obtain ⟨j, j1, j2⟩ := md_R.bit (fun i j hi hj => hx i j (by omega) (by omega)) h _ q
    have := hx j k (by omega) (by omega) j2
    omega
theorem md_R.lt {L s : Nat} {pt ok mu : Nat → Prop} {x : Nat → Nat} {k n S c W : Nat} (hx : ∀ i j, i < k → j < k → x i = x j → i = j) (hw : ∀ j, j < k → x j < W) (h : md_R L s pt ok mu x k n S c) : S < 2 ^ W := Nat.lt_pow_two_of_testBit S (fun i hi => by
  cases q : S.testBit i with
  | false => rfl
  | true =>
    obtain ⟨j, j1, j2⟩ := md_R.bit hx h _ q
    have := hw j j1
    omega)
/-- no column is asked for or barred -/
def md_U (L s : Nat) (pt : Nat → Prop) (x : Nat → Nat) : Nat → Nat → Nat → Nat → Prop := md_R L s pt (fun _ => True) (fun _ => False) x
theorem md_R.br {L s : Nat} {pt ok mu : Nat → Prop} {x : Nat → Nat} : ∀ {k : Nat}, (∀ i j, i < k → j < k → x i = x j → i = j) → ∀ {n S c : Nat}, md_R L s pt ok mu x k n S c → md_U L s pt x k n S c ∧ ∀ j, j < k → (S.testBit (x j) = true → ok j) ∧ (mu j → S.testBit (x j) = true) := fun {k} => by
  induction k with
  | zero =>
    intro _ n S c h
    exact ⟨md_R.z.mpr (md_R.z.mp h), fun j hj => by omega⟩
  | succ k ih =>
    intro hx n S c h
    have ih2 := fun {n S c : Nat} (g : md_R L s pt ok mu x k n S c) => ih (fun i j hi hj => hx i j (by omega) (by omega)) g
    rcases md_R.s.mp h with ⟨h1, h2, m, T, d, h3, h4, h5⟩ | ⟨h1, h2, m, h3, h4⟩
    · have hT := md_R.nb hx h3
      obtain ⟨g1, g2⟩ := ih2 h3
      refine ⟨md_R.s.mpr (Or.inl ⟨trivial, h2, m, T, d, g1, h4, h5⟩), fun j hj => ?_⟩
      rw [h4, md_ab _ _ hT]
      by_cases e : j = k
      · rw [e]
        exact ⟨fun _ => h1, fun _ => by rw [decide_eq_true (show x k = x k from rfl), Bool.or_true]⟩
      · rw [decide_eq_false (show ¬ x k = x j from fun q => e (hx k j (by omega) hj q).symm), Bool.or_false]
        exact g2 j (by omega)
    · obtain ⟨g1, g2⟩ := ih2 h3
      have hT := md_R.nb hx h3
      refine ⟨md_R.s.mpr (Or.inr ⟨fun q => q, h2, m, g1, h4⟩), fun j hj => ?_⟩
      by_cases e : j = k
      · rw [e]
        exact ⟨fun q => absurd q (by rw [hT]; decide), fun q => absurd q h1⟩
      · exact g2 j (by omega)
theorem md_R.rb {L s : Nat} {pt ok mu : Nat → Prop} {x : Nat → Nat} : ∀ {k : Nat}, (∀ i j, i < k → j < k → x i = x j → i = j) → ∀ {n S c : Nat}, md_U L s pt x k n S c → (∀ j, j < k → (S.testBit (x j) = true → ok j) ∧ (mu j → S.testBit (x j) = true)) → md_R L s pt ok mu x k n S c := fun {k} => by
  induction k with
  | zero =>
    intro _ n S c h _
    exact md_R.z.mpr (md_R.z.mp h)
  | succ k ih =>
    intro hx n S c h hc
    refine md_R.s.mpr ?_
    rcases md_R.s.mp h with ⟨-, h2, m, T, d, h3, h4, h5⟩ | ⟨-, h2, m, h3, h4⟩
    · have hT := md_R.nb hx h3
      have hk := hc k (Nat.lt_add_one k)
      rw [h4, md_ab _ _ hT, decide_eq_true (show x k = x k from rfl), Bool.or_true] at hk
      refine Or.inl ⟨hk.1 rfl, h2, m, T, d, ih (fun i j hi hj => hx i j (by omega) (by omega)) h3 (fun j hj => ?_), h4, h5⟩
      have q := hc j (by omega)
      rw [h4, md_ab _ _ hT, decide_eq_false (show ¬ x k = x j from fun q => by
        have := hx k j (by omega) (by omega) q
        omega), Bool.or_false] at q
      exact q
    · have hT := md_R.nb hx h3
      refine Or.inr ⟨fun q => ?_, h2, m, ih (fun i j hi hj => hx i j (by omega) (by omega)) h3 (fun j hj => hc j (by omega)), h4⟩
      have q2 := (hc k (Nat.lt_add_one k)).2 q
      rw [hT] at q2
      exact absurd q2 (by decide)
/-- a walk round -/
noncomputable def md_wk (W f j : Nat) : Nat := (f + j) % W
theorem md_wk.e {W f j : Nat} (hf : f ≤ W) (hj : j < W) : md_wk W f j = if f + j < W then f + j else f + j - W := by
  unfold md_wk
  by_cases e : f + j < W
  · rw [if_pos e, Nat.mod_eq_of_lt e]
  · rw [if_neg e, Nat.mod_eq_sub_mod (by omega), Nat.mod_eq_of_lt (by omega)]
theorem md_wk.lt {W f j : Nat} (hW : 0 < W) : md_wk W f j < W := Nat.mod_lt _ hW
theorem md_wk.inj {W f i j : Nat} (hf : f ≤ W) (hi : i < W) (hj : j < W) (h : md_wk W f i = md_wk W f j) : i = j := by
  rw [md_wk.e hf hi, md_wk.e hf hj] at h
  split at h <;> split at h <;> omega
theorem md_wk.sur {W f j : Nat} (hf : f ≤ W) (hj : j < W) : md_wk W f (if f ≤ j then j - f else j + W - f) = j := by
  by_cases e : f ≤ j
  · rw [if_pos e, md_wk.e hf (by omega), if_pos (by omega)]
    omega
  · rw [if_neg e, md_wk.e hf (by omega), if_neg (by omega)]
    omega
/-- what is asked: a set of columns S, n of them -/
def md_A (c : Nat → Int32) (W L : Nat) (S n : Nat) : Prop := (∃ F k, F < W ∧ fs_st c W F ∧ (∀ x, x < F → ¬ fs_st c W x) ∧ md_U L 0 (fun j => fs_st c W (md_wk W F j)) (md_wk W F) W k S n) ∨ ((∀ x, x < W → ¬ fs_st c W x) ∧ ((W ≤ L ∧ S = 0 ∧ n = 0) ∨ ∃ x k T b, x < W ∧ md_U L 0 (fun j => fs_st c W (md_wk W (x + 1) j)) (md_wk W (x + 1)) (W - 1) k T b ∧ S = T + 2 ^ x ∧ n = b + 1))
/-- the answer -/
def md_best (c : Nat → Int32) (W L M : Nat) : Prop := ∃ n, md_A c W L M n ∧ (∀ S b, md_A c W L S b → n ≤ b) ∧ ∀ S, md_A c W L S n → M ≤ S
theorem md_best.uniq {c : Nat → Int32} {W L M N : Nat} (h : md_best c W L M) (g : md_best c W L N) : M = N := by
  obtain ⟨a, h1, h2, h3⟩ := h
  obtain ⟨b, g1, g2, g3⟩ := g
  have e1 := h2 _ _ g1
  have e2 := g2 _ _ h1
  have e : a = b := by omega
  subst e
  have e3 := h3 _ g1
  have e4 := g3 _ h1
  omega
theorem md_A.lt {c : Nat → Int32} {W L S n : Nat} (hW : 0 < W) (h : md_A c W L S n) : S < 2 ^ W := by
  rcases h with ⟨F, k, h1, h2, h3, h4⟩ | ⟨h0, ⟨-, h1, -⟩ | ⟨x, k, T, b, h1, h2, h3, h4⟩⟩
  · exact md_R.lt (fun i j hi hj => md_wk.inj (by omega) hi hj) (fun j _ => md_wk.lt hW) h4
  · rw [h1]
    exact Nat.two_pow_pos W
  · have hi : ∀ i j, i < W - 1 + 1 → j < W - 1 + 1 → md_wk W (x + 1) i = md_wk W (x + 1) j → i = j := fun i j hi hj => md_wk.inj (by omega) (by omega) (by omega)
    have q := md_R.nb hi h2
    rw [md_wk.e (by omega) (by omega), if_neg (by omega), show x + 1 + (W - 1) - W = x by omega] at q
    refine Nat.lt_pow_two_of_testBit S (fun i hi2 => ?_)
    have q2 := md_R.lt (W := W) (fun i j hi3 hj3 => hi i j (by omega) (by omega)) (fun j _ => md_wk.lt hW) h2
    rw [h3, md_ab _ _ q, decide_eq_false (show ¬ x = i by omega), Bool.or_false]
    exact Nat.testBit_lt_two_pow (Nat.lt_of_lt_of_le q2 (Nat.pow_le_pow_right (by decide) hi2))
def sq_Pmend (gi : Nat → Int32) (ga : Nat → List Int32) (y v : Int32) : Prop := (¬ (0 ≤ y.toInt ∧ y.toInt < (gi 1).toInt) ∧ v.toInt = -1) ∨ ((0 ≤ y.toInt ∧ y.toInt < (gi 1).toInt) ∧ 0 ≤ v.toInt ∧ md_best (fs_c (ga 15) y.toInt.toNat) (gi 0).toInt.toNat (gi 2).toInt.toNat v.toInt.toNat)
theorem rel_mend {gi : Nat → Int32} {ga : Nat → List Int32} {y v u : Int32} (h : sq_Pmend gi ga y v) (g : sq_Pmend gi ga y u) : v = u := by
  refine i_eq.mpr ?_
  rcases h with ⟨h0, h1⟩ | ⟨h0, h1, h2⟩
  · rcases g with ⟨g0, g1⟩ | ⟨g0, g1⟩
    · omega
    · exact absurd g0 h0
  · rcases g with ⟨g0, g1⟩ | ⟨g0, g1, g2⟩
    · exact absurd h0 g0
    · have := h2.uniq g2
      omega

