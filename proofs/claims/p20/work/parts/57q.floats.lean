def fs_st (c : Nat → Int32) (W x : Nat) : Prop := ¬ c x = c ((x + W - 1) % W)
/-- the first column where a run begins; none: 0 -/
def fs_F (c : Nat → Int32) (W F : Nat) : Prop := (F = 0 ∧ ∀ x, x < W → ¬ fs_st c W x) ∨ (F < W ∧ fs_st c W F ∧ ∀ x, x < F → ¬ fs_st c W x)
theorem fs_F.uniq {c : Nat → Int32} {W F G : Nat} (h : fs_F c W F) (g : fs_F c W G) : F = G := by
  rcases h with ⟨h1, h2⟩ | ⟨h1, h2, h3⟩
  · rcases g with ⟨g1, g2⟩ | ⟨g1, g2, g3⟩
    · omega
    · exact absurd g2 (h2 G g1)
  · rcases g with ⟨g1, g2⟩ | ⟨g1, g2, g3⟩
    · exact absurd h2 (g2 F h1)
    · rcases Nat.lt_trichotomy F G with q | q | q
      · exact absurd h2 (g3 F q)
      · exact q
      · exact absurd g2 (h3 G q)
theorem fs_F.lt {c : Nat → Int32} {W F : Nat} (h : fs_F c W F) (hW : 0 < W) : F < W := by
  rcases h with ⟨h1, -⟩ | ⟨h1, -⟩ <;> omega
theorem fs_F.no {c : Nat → Int32} {W F x : Nat} (h : fs_F c W F) (hx : x < F) : ¬ fs_st c W x := by
  rcases h with ⟨h1, -⟩ | ⟨-, -, h1⟩
  · omega
  · exact h1 x hx
/-- from F on, round: a run begins -/
def fs_S (c : Nat → Int32) (W F j : Nat) : Prop := j = 0 ∨ fs_st c W ((F + j) % W)
def fs_gap (S : Nat → Prop) (W k g : Nat) : Prop := 1 ≤ g ∧ k + g ≤ W ∧ (k + g = W ∨ S (k + g)) ∧ ∀ j, k < j → j < k + g → ¬ S j
theorem fs_gap.uniq {S : Nat → Prop} {W k g e : Nat} (h : fs_gap S W k g) (q : fs_gap S W k e) : g = e := by
  obtain ⟨h1, h2, h3, h4⟩ := h
  obtain ⟨q1, q2, q3, q4⟩ := q
  rcases Nat.lt_trichotomy g e with c | c | c
  · rcases h3 with h3 | h3
    · omega
    · exact absurd h3 (q4 _ (by omega) (by omega))
  · exact c
  · rcases q3 with q3 | q3
    · omega
    · exact absurd q3 (h4 _ (by omega) (by omega))
/-- all runs, one behind the other -/
def fs_fold (S : Nat → Prop) (W : Nat) (h : Nat → Nat → Nat) : Nat → Nat → Prop
  | 0, n => n = 0
  | k + 1, n => ∃ p, fs_fold S W h k p ∧ ((S k ∧ ∃ g, fs_gap S W k g ∧ n = h p g) ∨ (¬ S k ∧ n = p))
theorem fs_fold.uniq {S : Nat → Prop} {W : Nat} {h : Nat → Nat → Nat} {k : Nat} : ∀ {n m : Nat}, fs_fold S W h k n → fs_fold S W h k m → n = m := by
  induction k with
  | zero =>
    intro n m a b
    have a : n = 0 := a
    have b : m = 0 := b
    omega
  | succ k ih =>
    intro n m a b
    obtain ⟨p, a1, a2⟩ := a
    obtain ⟨q, b1, b2⟩ := b
    have e := ih a1 b1
    subst e
    rcases a2 with ⟨a2, g, a3, a4⟩ | ⟨a2, a3⟩
    · rcases b2 with ⟨b2, e, b3, b4⟩ | ⟨b2, b3⟩
      · have e2 := a3.uniq b3
        subst e2
        rw [a4, b4]
      · exact absurd a2 b2
    · rcases b2 with ⟨b2, e, b3, b4⟩ | ⟨b2, b3⟩
      · exact absurd b2 a2
      · omega
theorem fs_fold.skip {S : Nat → Prop} {W : Nat} {h : Nat → Nat → Nat} {k n : Nat} (a : fs_fold S W h k n) (d : Nat) : (∀ j, k ≤ j → j < k + d → ¬ S j) → fs_fold S W h (k + d) n := by
  induction d with
  | zero => intro _; exact a
  | succ d ih =>
    intro q
    exact ⟨n, ih (fun j h1 h2 => q j h1 (by omega)), Or.inr ⟨q (k + d) (by omega) (by omega), rfl⟩⟩
theorem fs_fold.step {S : Nat → Prop} {W : Nat} {h : Nat → Nat → Nat} {k n g : Nat} (a : fs_fold S W h k n) (hs : S k) (hg : fs_gap S W k g) : fs_fold S W h (k + g) (h n g) := by
  have b : fs_fold S W h (k + 1) (h n g) := ⟨n, a, Or.inl ⟨hs, g, hg, rfl⟩⟩
  have c := b.skip (g - 1) (fun j h1 h2 => hg.2.2.2 j (by omega) (by have := hg.1; omega))
  have e := hg.1
  rw [show k + 1 + (g - 1) = k + g by omega] at c
  exact c
theorem fs_fold.start {S : Nat → Prop} {W : Nat} {h : Nat → Nat → Nat} : fs_fold S W h 0 0 := (rfl : (0 : Nat) = 0)
/-- what the class lays: m runs of k columns, o: where they begin, l: how long they are -/
def fs_lay (S : Nat → Prop) (o : Nat → Nat) (l : Nat → Int) (k m : Nat) : Prop := (∀ i, i < m → o i < k ∧ S (o i)) ∧ (∀ j, j < k → S j → ∃ i, i < m ∧ o i = j) ∧ (∀ i, i + 1 < m → o i < o (i + 1) ∧ l i = (o (i + 1) : Int) - o i) ∧ (0 < m → l (m - 1) = (k : Int) - o (m - 1)) ∧ (0 < k → 0 < m ∧ o 0 = 0)
theorem fs_lay.mono {S : Nat → Prop} {o : Nat → Nat} {l : Nat → Int} {k m : Nat} (h : fs_lay S o l k m) {i : Nat} (d : Nat) : i + d + 1 < m + 1 → o i ≤ o (i + d) ∧ (0 < d → o i < o (i + d)) := by
  induction d with
  | zero => intro _; exact ⟨Nat.le_refl _, fun q => by omega⟩
  | succ d ih =>
    intro q
    have a := ih (by omega)
    have b := (h.2.2.1 (i + d) (by omega)).1
    rw [show i + (d + 1) = i + d + 1 by omega]
    exact ⟨by omega, fun _ => by omega⟩
theorem fs_lay.gap {S : Nat → Prop} {o : Nat → Nat} {l : Nat → Int} {W m : Nat} (h : fs_lay S o l W m) {i : Nat} (hi : i < m) : fs_gap S W (o i) (l i).toNat ∧ 0 ≤ l i ∧ o i + (l i).toNat = (if i + 1 < m then o (i + 1) else W) := by
  have h1 := (h.1 i hi).1
  -- no beginning between two that follow each other
  have hno : ∀ j, o i < j → j < (if i + 1 < m then o (i + 1) else W) → j < W → ¬ S j := fun j a b c hs => by
    obtain ⟨e, e1, e2⟩ := h.2.1 j c hs
    subst e2
    by_cases q : e ≤ i
    · have z := (h.mono (i := e) (i - e) (by omega)).1
      rw [show e + (i - e) = i by omega] at z
      omega
    · rw [if_pos (by omega)] at b
      have z := (h.mono (i := i + 1) (e - (i + 1)) (by omega)).1
      rw [show i + 1 + (e - (i + 1)) = e by omega] at z
      omega
  by_cases q : i + 1 < m
  · obtain ⟨a, b⟩ := h.2.2.1 i q
    have c := h.1 (i + 1) q
    rw [if_pos q] at hno
    rw [if_pos q]
    refine ⟨⟨by omega, by omega, Or.inr ?_, fun j j1 j2 => hno j j1 (by omega) (by omega)⟩, by omega, by omega⟩
    rw [show o i + (l i).toNat = o (i + 1) by omega]
    exact c.2
  · have b := h.2.2.2.1 (by omega)
    rw [show m - 1 = i by omega] at b
    rw [if_neg q] at hno
    rw [if_neg q]
    exact ⟨⟨by omega, by omega, Or.inl (by omega), fun j j1 j2 => hno j j1 (by omega) (by omega)⟩, by omega, by omega⟩
/-- one more column of the last run -/
theorem fs_lay.more {S : Nat → Prop} {o : Nat → Nat} {l l' : Nat → Int} {k m : Nat} (h : fs_lay S o l k m) (hk : 0 < k) (hs : ¬ S k) (hl : ∀ i, i + 1 < m → l' i = l i) (hn : l' (m - 1) = l (m - 1) + 1) : fs_lay S o l' (k + 1) m := by
  obtain ⟨a1, a2, a3, a4, a5⟩ := h
  have b := a5 hk
  refine ⟨fun i hi => ?_, fun j hj hsj => ?_, fun i hi => ?_, fun q => ?_, fun _ => b⟩
  · have := a1 i hi
    exact ⟨by omega, this.2⟩
  · by_cases e : j = k
    · rw [e] at hsj
      exact absurd hsj hs
    · exact a2 j (by omega) hsj
  · rw [hl i hi]
    exact a3 i hi
  · have c := a4 q
    rw [hn, c]
    omega
/-- the reference's run -/
def fs_RF (c : Nat → Int32) (W x g : Nat) : Prop := 1 ≤ g ∧ g ≤ W ∧ (∀ n, 1 ≤ n → n < g → c ((x + n) % W) = c x) ∧ (g < W → ¬ c ((x + g) % W) = c x)
/-- a step back, round -/
theorem fs_back {W b : Nat} (hW : 0 < W) : ((b + 1) % W + W - 1) % W = b % W := by
  have h2 := Nat.mod_lt b hW
  rw [show (b + 1) % W = (b % W + 1) % W from (Nat.mod_add_mod b W 1).symm]
  by_cases q : b % W + 1 < W
  · rw [Nat.mod_eq_of_lt q, show b % W + 1 + W - 1 = b % W + W by omega, Nat.add_mod_right, Nat.mod_mod]
  · rw [show b % W + 1 = W by omega, Nat.mod_self, show 0 + W - 1 = W - 1 by omega, Nat.mod_eq_of_lt (by omega)]
    omega
/-- the reference's run is the way to the next beginning -/
theorem fs_RF.gap {c : Nat → Int32} {W F j g : Nat} (hW : 0 < W) (hF : fs_F c W F) (hj : j < W) (hs : fs_S c W F j) (h : fs_RF c W ((F + j) % W) g) : fs_gap (fs_S c W F) W j g := by
  obtain ⟨h1, h2, h3, h4⟩ := h
  have hFW := hF.lt hW
  have ex : ∀ n, ((F + j) % W + n) % W = (F + (j + n)) % W := fun n => by rw [Nat.mod_add_mod, Nat.add_assoc]
  have hc : ∀ n, n < g → c ((F + (j + n)) % W) = c ((F + j) % W) := fun n hn => by
    by_cases e : n = 0
    · rw [e, Nat.add_zero]
    · rw [← ex n]
      exact h3 n (by omega) hn
  -- nothing begins on the way
  have hno : ∀ n, 1 ≤ n → n < g → ¬ fs_st c W ((F + (j + n)) % W) := fun n n1 n2 q => by
    unfold fs_st at q
    rw [show F + (j + n) = (F + (j + (n - 1))) + 1 by omega, fs_back hW] at q
    exact q (by rw [show F + (j + (n - 1)) + 1 = F + (j + n) by omega, hc n n2, hc (n - 1) (by omega)])
  have hle : j + g ≤ W := by
    false_or_by_contra
    rename_i hx
    rcases hF with ⟨e1, e2⟩ | ⟨e1, e2, -⟩
    · -- no run begins at all: j is 0
      rcases hs with hs | hs
      · omega
      · exact e2 _ (Nat.mod_lt _ hW) hs
    · have q := hno (W - j) (by omega) (by omega)
      rw [show j + (W - j) = W by omega, Nat.add_mod_right, Nat.mod_eq_of_lt e1] at q
      exact q e2
  refine ⟨h1, hle, ?_, fun i i1 i2 q => ?_⟩
  · by_cases e : j + g = W
    · exact Or.inl e
    · refine Or.inr (Or.inr ?_)
      have q := h4 (by omega)
      rw [ex g] at q
      unfold fs_st
      rw [show F + (j + g) = (F + (j + (g - 1))) + 1 by omega, fs_back hW, show F + (j + (g - 1)) + 1 = F + (j + g) by omega, hc (g - 1) (by omega)]
      exact q
  · rcases q with q | q
    · omega
    · have z := hno (i - j) (by omega) (by omega)
      rw [show j + (i - j) = i by omega] at z
      exact z q
/-- an answer: h over all runs -/
def fs_P (c : Nat → Int32) (W : Nat) (h : Nat → Nat → Nat) (n : Nat) : Prop := ∃ F, fs_F c W F ∧ fs_fold (fs_S c W F) W h W n
theorem fs_P.uniq {c : Nat → Int32} {W : Nat} {h : Nat → Nat → Nat} {n m : Nat} (a : fs_P c W h n) (b : fs_P c W h m) : n = m := by
  obtain ⟨F, a1, a2⟩ := a
  obtain ⟨G, b1, b2⟩ := b
  have e := a1.uniq b1
  subst e
  exact a2.uniq b2
/-- the reference's way over the columns -/
theorem fs_fold.col {c : Nat → Int32} {W F x n g : Nat} {h : Nat → Nat → Nat} (hW : 0 < W) (hF : fs_F c W F) (hx : x < W) (a : fs_fold (fs_S c W F) W h (x - F) n) (hs : F ≤ x ∧ fs_S c W F (x - F)) (hg : fs_RF c W x g) : fs_fold (fs_S c W F) W h (x + 1 - F) (h n g) := by
  have q := hg
  rw [show x = (F + (x - F)) % W by rw [show F + (x - F) = x by omega, Nat.mod_eq_of_lt hx]] at q
  rw [show x + 1 - F = (x - F) + 1 by omega]
  exact ⟨n, a, Or.inl ⟨hs.2, g, q.gap hW hF (by omega) hs.2, rfl⟩⟩
theorem fs_F.ex (c : Nat → Int32) (W : Nat) : ∃ F, fs_F c W F := by
  have q : ∀ n, n ≤ W → (∀ x, x < n → ¬ fs_st c W x) ∨ ∃ F, F < n ∧ fs_st c W F ∧ ∀ x, x < F → ¬ fs_st c W x := by
    intro n
    induction n with
    | zero => intro _; exact Or.inl (fun x hx => by omega)
    | succ n ih =>
      intro hn
      rcases ih (by omega) with h | ⟨F, h1, h2, h3⟩
      · by_cases e : fs_st c W n
        · exact Or.inr ⟨n, by omega, e, h⟩
        · refine Or.inl (fun x hx => ?_)
          by_cases g : x < n
          · exact h x g
          · rw [show x = n by omega]; exact e
      · exact Or.inr ⟨F, by omega, h2, h3⟩
  rcases q W (Nat.le_refl _) with h | ⟨F, h1, h2, h3⟩
  · exact ⟨0, Or.inl ⟨rfl, h⟩⟩
  · exact ⟨F, Or.inr ⟨h1, h2, h3⟩⟩
/-- over the class's runs -/
theorem fs_lay.first {S : Nat → Prop} {o : Nat → Nat} {l : Nat → Int} {W m : Nat} {h : Nat → Nat → Nat} (a : fs_lay S o l W m) (n k : Nat) (hn : n = 0) (hk : k = 0) : fs_fold S W h (if n < m then o n else W) k := by
  subst hn
  subst hk
  by_cases e : 0 < m
  · rw [if_pos e]
    have z := a.1 0 e
    rw [(a.2.2.2.2 (by omega)).2]
    exact fs_fold.start
  · rw [if_neg e]
    by_cases q : 0 < W
    · exact absurd (a.2.2.2.2 q).1 e
    · rw [show W = 0 by omega]
      exact fs_fold.start
theorem fs_lay.next {S : Nat → Prop} {o : Nat → Nat} {l : Nat → Int} {W m i j p n : Nat} {h : Nat → Nat → Nat} (a : fs_lay S o l W m) (hi : i < m) (hj : j = i + 1) (b : fs_fold S W h (if i < m then o i else W) p) (hn : n = h p (l i).toNat) : fs_fold S W h (if j < m then o j else W) n := by
  subst hj
  subst hn
  obtain ⟨g1, -, g3⟩ := a.gap hi
  rw [if_pos hi] at b
  rw [← g3]
  exact b.step (a.1 i hi).2 g1
