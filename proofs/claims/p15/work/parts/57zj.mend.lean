/-- v is the least of P, or 99 where there is none -/
def md_mn (P : Nat → Prop) (v : Int) : Prop := 0 ≤ v ∧ v ≤ 99 ∧ (∀ c, P c → v ≤ (c : Int)) ∧ (v < 99 → P v.toNat)
theorem md_mn.none {P : Nat → Prop} (h : ∀ c, ¬ P c) : md_mn P 99 := ⟨by decide, by decide, fun c hc => absurd hc (h c), fun q => absurd q (by decide)⟩
theorem md_mn.zero {P : Nat → Prop} (h : P 0) : md_mn P 0 := ⟨by decide, by decide, fun c _ => by omega, fun _ => h⟩
theorem md_mn.congr {P Q : Nat → Prop} {v : Int} (h : md_mn P v) (e : ∀ c, Q c ↔ P c) : md_mn Q v := ⟨h.1, h.2.1, fun c hc => h.2.2.1 c ((e c).mp hc), fun q => (e _).mpr (h.2.2.2 q)⟩
theorem md_mn.take {P Q R : Nat → Prop} {v u : Int} (d : Nat) (h : md_mn P v) (g : md_mn Q u) (e : ∀ c, R c ↔ (P c ∨ ∃ b, Q b ∧ c = b + d)) (q : u + d < v) : md_mn R (u + d) := by
  obtain ⟨h1, h2, h3, h4⟩ := h
  obtain ⟨g1, g2, g3, g4⟩ := g
  refine ⟨by omega, by omega, fun c hc => ?_, fun _ => (e _).mpr (Or.inr ⟨u.toNat, g4 (by omega), by omega⟩)⟩
  rcases (e c).mp hc with q2 | ⟨b, q2, q3⟩
  · have := h3 c q2
    omega
  · have := g3 b q2
    omega
theorem md_mn.keep {P Q R : Nat → Prop} {v u : Int} (d : Nat) (h : md_mn P v) (g : md_mn Q u) (e : ∀ c, R c ↔ (P c ∨ ∃ b, Q b ∧ c = b + d)) (q : ¬ u + d < v) : md_mn R v := by
  obtain ⟨h1, h2, h3, h4⟩ := h
  obtain ⟨g1, g2, g3, g4⟩ := g
  refine ⟨h1, h2, fun c hc => ?_, fun q2 => (e _).mpr (Or.inl (h4 q2))⟩
  rcases (e c).mp hc with q2 | ⟨b, q2, q3⟩
  · exact h3 c q2
  · have := g3 b q2
    omega
theorem md_mn.uniq {P : Nat → Prop} {v u : Int} (h : md_mn P v) (g : md_mn P u) : v = u := by
  obtain ⟨h1, h2, h3, h4⟩ := h
  obtain ⟨g1, g2, g3, g4⟩ := g
  by_cases a : v < 99
  · by_cases b : u < 99
    · have q1 := h3 _ (g4 b)
      have q2 := g3 _ (h4 a)
      omega
    · have q2 := g3 _ (h4 a)
      omega
  · by_cases b : u < 99
    · have q1 := h3 _ (g4 b)
      omega
    · omega
/-- a row of 21 numbers: the least of each run -/
def md_rw (P : Nat → Nat → Prop) (h : Nat → Int) : Prop := ∀ g, g ≤ 20 → md_mn (P g) (h g)
def md_N (L : Nat) (pt ok mu : Nat → Prop) (x : Nat → Nat) (k n c : Nat) : Prop := ∃ S, md_R L 0 pt ok mu x k n S c
/-- what leads to a run of g: mended behind runs of less than m, or not mended behind runs of less than q -/
def md_T (L : Nat) (pt ok mu : Nat → Prop) (x : Nat → Nat) (k m q g c : Nat) : Prop := (∃ n b, n < m ∧ md_N L pt ok mu x k n b ∧ ok k ∧ g = 0 ∧ c = b + 1) ∨ (∃ n, n < q ∧ md_N L pt ok mu x k n c ∧ ¬ mu k ∧ g ≤ L ∧ ((pt k ∧ g = 1) ∨ (¬ pt k ∧ g = n + 1)))
section PmMd
variable {L k m q : Nat} {pt ok mu : Nat → Prop} {x : Nat → Nat} {h h' : Nat → Int} {u : Int}
theorem md_rw0 (e : ∀ j, j ≤ 20 → h j = if j = 0 then 0 else 99) : md_rw (md_N L pt ok mu x 0) h := fun g hg => by
  rw [e g hg]
  by_cases e0 : g = 0
  · rw [if_pos e0]
    exact md_mn.zero ⟨0, md_R.z.mpr ⟨e0, rfl, rfl⟩⟩
  · rw [if_neg e0]
    refine md_mn.none (fun c hc => ?_)
    obtain ⟨S, hS⟩ := hc
    have := md_R.z.mp hS
    omega
theorem md_rwT (e : ∀ j, j ≤ 20 → h j = 99) : md_rw (md_T L pt ok mu x k 0 0) h := fun g hg => by
  rw [e g hg]
  refine md_mn.none (fun c hc => ?_)
  rcases hc with ⟨n, b, h1, -⟩ | ⟨n, h1, -⟩ <;> omega
theorem md_T.mm {g c : Nat} : md_T L pt ok mu x k (m + 1) q g c ↔ md_T L pt ok mu x k m q g c ∨ ∃ b, md_N L pt ok mu x k m b ∧ ok k ∧ g = 0 ∧ c = b + 1 := by
  constructor
  · intro a
    rcases a with ⟨n, b, a1, a2⟩ | a
    · by_cases e : n = m
      · rw [e] at a2
        exact Or.inr ⟨b, a2⟩
      · exact Or.inl (Or.inl ⟨n, b, by omega, a2⟩)
    · exact Or.inl (Or.inr a)
  · intro a
    rcases a with (⟨n, b, a1, a2⟩ | a) | ⟨b, a⟩
    · exact Or.inl ⟨n, b, by omega, a2⟩
    · exact Or.inr a
    · exact Or.inl ⟨m, b, by omega, a⟩
theorem md_T.qq {g c : Nat} : md_T L pt ok mu x k m (q + 1) g c ↔ md_T L pt ok mu x k m q g c ∨ (md_N L pt ok mu x k q c ∧ ¬ mu k ∧ g ≤ L ∧ ((pt k ∧ g = 1) ∨ (¬ pt k ∧ g = q + 1))) := by
  constructor
  · intro a
    rcases a with a | ⟨n, a1, a2⟩
    · exact Or.inl (Or.inl a)
    · by_cases e : n = q
      · rw [e] at a2
        exact Or.inr a2
      · exact Or.inl (Or.inr ⟨n, by omega, a2⟩)
  · intro a
    rcases a with (a | ⟨n, a1, a2⟩) | a
    · exact Or.inl a
    · exact Or.inr ⟨n, by omega, a2⟩
    · exact Or.inr ⟨q, by omega, a⟩
theorem md_p1n (hh : md_rw (md_T L pt ok mu x k m q) h) (ho : ¬ ok k) : md_rw (md_T L pt ok mu x k (m + 1) q) h := fun g hg => (hh g hg).congr (fun c => md_T.mm.trans ⟨fun a => a.elim (fun a => a) (fun ⟨b, _, a, _⟩ => absurd a ho), Or.inl⟩)
theorem md_p1k (hh : md_rw (md_T L pt ok mu x k m q) h) (ho : ok k) (hf : md_mn (md_N L pt ok mu x k m) u) (hq : ¬ u + 1 < h 0) : md_rw (md_T L pt ok mu x k (m + 1) q) h := fun g hg => by
  by_cases e : g = 0
  · subst e
    exact md_mn.keep 1 (hh 0 hg) hf (fun c => md_T.mm.trans ⟨fun a => a.imp (fun a => a) (fun ⟨b, a1, _, _, a2⟩ => ⟨b, a1, a2⟩), fun a => a.imp (fun a => a) (fun ⟨b, a1, a2⟩ => ⟨b, a1, ho, rfl, a2⟩)⟩) (by omega)
  · exact (hh g hg).congr (fun c => md_T.mm.trans ⟨fun a => a.elim (fun a => a) (fun ⟨b, _, _, a, _⟩ => absurd a e), Or.inl⟩)
theorem md_p1t (hh : md_rw (md_T L pt ok mu x k m q) h) (ho : ok k) (hf : md_mn (md_N L pt ok mu x k m) u) (hq : u + 1 < h 0) (h0 : h' 0 = u + 1) (hn : ∀ g, g ≠ 0 → h' g = h g) : md_rw (md_T L pt ok mu x k (m + 1) q) h' := fun g hg => by
  by_cases e : g = 0
  · subst e
    have z := md_mn.take 1 (hh 0 hg) hf (R := md_T L pt ok mu x k (m + 1) q 0) (fun c => md_T.mm.trans ⟨fun a => a.imp (fun a => a) (fun ⟨b, a1, _, _, a2⟩ => ⟨b, a1, a2⟩), fun a => a.imp (fun a => a) (fun ⟨b, a1, a2⟩ => ⟨b, a1, ho, rfl, a2⟩)⟩) (by omega)
    rw [h0, show u + 1 = u + ((1 : Nat) : Int) by omega]
    exact z
  · rw [hn g e]
    exact (hh g hg).congr (fun c => md_T.mm.trans ⟨fun a => a.elim (fun a => a) (fun ⟨b, _, _, a, _⟩ => absurd a e), Or.inl⟩)
theorem md_p2e {g go : Nat} (hgo : (pt k ∧ go = 1) ∨ (¬ pt k ∧ go = q + 1)) (a : (pt k ∧ g = 1) ∨ (¬ pt k ∧ g = q + 1)) : g = go := by
  rcases hgo with ⟨b1, b2⟩ | ⟨b1, b2⟩
  · rcases a with ⟨c1, c2⟩ | ⟨c1, c2⟩
    · omega
    · exact absurd b1 c1
  · rcases a with ⟨c1, c2⟩ | ⟨c1, c2⟩
    · exact absurd c1 b1
    · omega
theorem md_p2n (hh : md_rw (md_T L pt ok mu x k m q) h) {go : Nat} (hgo : (pt k ∧ go = 1) ∨ (¬ pt k ∧ go = q + 1)) (ho : ¬ (¬ mu k ∧ go ≤ L)) : md_rw (md_T L pt ok mu x k m (q + 1)) h := fun g hg => (hh g hg).congr (fun c => md_T.qq.trans ⟨fun a => a.elim (fun a => a) (fun ⟨_, a1, a2, a3⟩ => absurd ⟨a1, by rw [← md_p2e hgo a3]; exact a2⟩ ho), Or.inl⟩)
theorem md_p2k (hh : md_rw (md_T L pt ok mu x k m q) h) {go : Nat} (hgo : (pt k ∧ go = 1) ∨ (¬ pt k ∧ go = q + 1)) (h1 : ¬ mu k) (h2 : go ≤ L) (hf : md_mn (md_N L pt ok mu x k q) u) (hq : ¬ u < h go) : md_rw (md_T L pt ok mu x k m (q + 1)) h := fun g hg => by
  by_cases e : g = go
  · subst e
    exact md_mn.keep 0 (hh g hg) hf (fun c => md_T.qq.trans ⟨fun a => a.imp (fun a => a) (fun ⟨a1, _⟩ => ⟨c, a1, rfl⟩), fun a => a.imp (fun a => a) (fun ⟨b, a1, a2⟩ => ⟨by rw [show c = b from a2]; exact a1, h1, h2, hgo⟩)⟩) (by omega)
  · exact (hh g hg).congr (fun c => md_T.qq.trans ⟨fun a => a.elim (fun a => a) (fun ⟨_, _, _, a⟩ => absurd (md_p2e hgo a) e), Or.inl⟩)
theorem md_p2t (hh : md_rw (md_T L pt ok mu x k m q) h) {go : Nat} (hgo : (pt k ∧ go = 1) ∨ (¬ pt k ∧ go = q + 1)) (h1 : ¬ mu k) (h2 : go ≤ L) (hf : md_mn (md_N L pt ok mu x k q) u) (hq : u < h go) (h0 : h' go = u) (hn : ∀ g, g ≠ go → h' g = h g) : md_rw (md_T L pt ok mu x k m (q + 1)) h' := fun g hg => by
  by_cases e : g = go
  · subst e
    have z := md_mn.take 0 (hh g hg) hf (R := md_T L pt ok mu x k m (q + 1) g) (fun c => md_T.qq.trans ⟨fun a => a.imp (fun a => a) (fun ⟨a1, _⟩ => ⟨c, a1, rfl⟩), fun a => a.imp (fun a => a) (fun ⟨b, a1, a2⟩ => ⟨by rw [show c = b from a2]; exact a1, h1, h2, hgo⟩)⟩) (by omega)
    rw [h0, show u = u + ((0 : Nat) : Int) by omega]
    exact z
  · rw [hn g e]
    exact (hh g hg).congr (fun c => md_T.qq.trans ⟨fun a => a.elim (fun a => a) (fun ⟨_, _, _, a⟩ => absurd (md_p2e hgo a) e), Or.inl⟩)
/-- all runs are looked at -/
theorem md_T.all {M g c : Nat} (hM : L < M) : md_N L pt ok mu x (k + 1) g c ↔ md_T L pt ok mu x k M M g c := by
  constructor
  · intro a
    obtain ⟨S, a⟩ := a
    rcases md_R.s.mp a with ⟨h1, h2, n, T, b, h3, h4, h5⟩ | ⟨h1, h2, n, h3, h4⟩
    · have := md_R.le (Nat.zero_le L) h3
      exact Or.inl ⟨n, b, by omega, ⟨T, h3⟩, h1, h2, h5⟩
    · have := md_R.le (Nat.zero_le L) h3
      exact Or.inr ⟨n, by omega, ⟨S, h3⟩, h1, h2, h4⟩
  · intro a
    rcases a with ⟨n, b, -, ⟨T, a1⟩, a2, a3, a4⟩ | ⟨n, -, ⟨S, a1⟩, a2, a3, a4⟩
    · exact ⟨T + 2 ^ x k, md_R.s.mpr (Or.inl ⟨a2, a3, n, T, b, a1, rfl, a4⟩)⟩
    · exact ⟨S, md_R.s.mpr (Or.inr ⟨a2, a3, n, a1, a4⟩)⟩
theorem md_rw.on {M : Nat} (hh : md_rw (md_T L pt ok mu x k M M) h) (hM : L < M) (e : ∀ j, j ≤ 20 → h' j = h j) : md_rw (md_N L pt ok mu x (k + 1)) h' := fun g hg => by
  rw [e g hg]
  exact (hh g hg).congr (fun c => md_T.all hM)
/-- the least of them -/
def md_F1 (L : Nat) (pt ok mu : Nat → Prop) (x : Nat → Nat) (k m c : Nat) : Prop := ∃ n, n < m ∧ md_N L pt ok mu x k n c
theorem md_F1.z : md_mn (md_F1 L pt ok mu x k 0) 99 := md_mn.none (fun c hc => by
  obtain ⟨n, h1, -⟩ := hc
  omega)
theorem md_F1.s {c : Nat} : md_F1 L pt ok mu x k (m + 1) c ↔ (md_F1 L pt ok mu x k m c ∨ ∃ b, md_N L pt ok mu x k m b ∧ c = b + 0) := by
  constructor
  · intro a
    obtain ⟨n, a1, a2⟩ := a
    by_cases e : n = m
    · rw [e] at a2
      exact Or.inr ⟨c, a2, rfl⟩
    · exact Or.inl ⟨n, by omega, a2⟩
  · intro a
    rcases a with ⟨n, a1, a2⟩ | ⟨b, a1, a2⟩
    · exact ⟨n, by omega, a2⟩
    · exact ⟨m, by omega, by rw [show c = b from a2]; exact a1⟩
theorem md_F1.all {c : Nat} (hm : L < m) : (∃ n S, md_R L 0 pt ok mu x k n S c) ↔ md_F1 L pt ok mu x k m c := by
  constructor
  · intro a
    obtain ⟨n, S, a⟩ := a
    have := md_R.le (Nat.zero_le L) a
    exact ⟨n, by omega, S, a⟩
  · intro a
    obtain ⟨n, -, S, a⟩ := a
    exact ⟨n, S, a⟩
end PmMd
/-- from a column on, m of them; U are asked for, B are barred -/
def md_F (c : Nat → Int32) (W L f m : Nat) (U B : Nat → Prop) (n : Nat) : Prop := ∃ k S, md_R L 0 (fun j => fs_st c W (md_wk W f j)) (fun j => ¬ B (md_wk W f j)) (fun j => U (md_wk W f j)) (md_wk W f) m k S n
theorem md_F.congr {c : Nat → Int32} {W L f m : Nat} {U B U' B' : Nat → Prop} {n : Nat} (hW : 0 < W) (e : ∀ j, j < W → (U' j ↔ U j) ∧ (B' j ↔ B j)) (h : md_F c W L f m U B n) : md_F c W L f m U' B' n := by
  obtain ⟨k, S, h⟩ := h
  exact ⟨k, S, md_R.congr m (fun j _ => ⟨rfl, Iff.rfl, not_congr (e _ (md_wk.lt hW)).2, (e _ (md_wk.lt hW)).1⟩) _ _ _ h⟩
/-- the plain pick, cut at the columns below X -/
def md_H (c : Nat → Int32) (W L : Nat) (U B : Nat → Prop) (z : Prop) (X n : Nat) : Prop := (W ≤ L ∧ z ∧ n = 0) ∨ ∃ x b, x < X ∧ ¬ B x ∧ md_F c W L (x + 1) (W - 1) (fun j => U j ∧ j ≠ x) B b ∧ n = b + 1
def md_G (c : Nat → Int32) (W L : Nat) (U B : Nat → Prop) (z : Prop) (n : Nat) : Prop := (∃ F, F < W ∧ fs_st c W F ∧ (∀ x, x < F → ¬ fs_st c W x) ∧ md_F c W L F W U B n) ∨ ((∀ x, x < W → ¬ fs_st c W x) ∧ md_H c W L U B z W n)
section PmMg
variable {c : Nat → Int32} {W L X : Nat} {U B : Nat → Prop} {z : Prop} {v u : Int}
theorem md_H.i0 (h1 : W ≤ L) (h2 : z) : md_mn (md_H c W L U B z 0) 0 := md_mn.zero (Or.inl ⟨h1, h2, rfl⟩)
theorem md_H.i99 (h : ¬ (W ≤ L ∧ z)) : md_mn (md_H c W L U B z 0) 99 := md_mn.none (fun n hn => by
  rcases hn with ⟨h1, h2, -⟩ | ⟨x, b, h1, -⟩
  · exact h ⟨h1, h2⟩
  · omega)
theorem md_H.s {n : Nat} : md_H c W L U B z (X + 1) n ↔ md_H c W L U B z X n ∨ (¬ B X ∧ ∃ b, md_F c W L (X + 1) (W - 1) (fun j => U j ∧ j ≠ X) B b ∧ n = b + 1) := by
  constructor
  · intro a
    rcases a with a | ⟨x, b, a1, a2, a3⟩
    · exact Or.inl (Or.inl a)
    · by_cases e : x = X
      · subst e
        exact Or.inr ⟨a2, b, a3⟩
      · exact Or.inl (Or.inr ⟨x, b, by omega, a2, a3⟩)
  · intro a
    rcases a with (a | ⟨x, b, a1, a2⟩) | ⟨a1, b, a2⟩
    · exact Or.inl a
    · exact Or.inr ⟨x, b, by omega, a2⟩
    · exact Or.inr ⟨X, b, by omega, a1, a2⟩
theorem md_H.no (h : md_mn (md_H c W L U B z X) v) (hb : B X) : md_mn (md_H c W L U B z (X + 1)) v := h.congr (fun n => md_H.s.trans ⟨fun a => a.elim (fun a => a) (fun a => absurd hb a.1), Or.inl⟩)
theorem md_H.keep (h : md_mn (md_H c W L U B z X) v) (hb : ¬ B X) (g : md_mn (md_F c W L (X + 1) (W - 1) (fun j => U j ∧ j ≠ X) B) u) (q : ¬ u + 1 < v) : md_mn (md_H c W L U B z (X + 1)) v := md_mn.keep 1 h g (fun n => md_H.s.trans ⟨fun a => a.imp (fun a => a) (fun a => a.2), fun a => a.imp (fun a => a) (fun a => ⟨hb, a⟩)⟩) (by omega)
theorem md_H.take (h : md_mn (md_H c W L U B z X) v) (hb : ¬ B X) (g : md_mn (md_F c W L (X + 1) (W - 1) (fun j => U j ∧ j ≠ X) B) u) (q : u + 1 < v) : md_mn (md_H c W L U B z (X + 1)) (u + 1) := by
  have r := md_mn.take 1 h g (R := md_H c W L U B z (X + 1)) (fun n => md_H.s.trans ⟨fun a => a.imp (fun a => a) (fun a => a.2), fun a => a.imp (fun a => a) (fun a => ⟨hb, a⟩)⟩) (by omega)
  rw [show u + 1 = u + ((1 : Nat) : Int) by omega]
  exact r
theorem md_br {f m k S n : Nat} {pt : Nat → Prop} (hf : f ≤ W) (hm : m ≤ W) (h : md_R L 0 pt (fun j => ¬ B (md_wk W f j)) (fun j => U (md_wk W f j)) (md_wk W f) m k S n) : md_U L 0 pt (md_wk W f) m k S n ∧ ∀ j, j < m → (S.testBit (md_wk W f j) = true → ¬ B (md_wk W f j)) ∧ (U (md_wk W f j) → S.testBit (md_wk W f j) = true) := md_R.br (fun i j hi hj => md_wk.inj hf (by omega) (by omega)) h
theorem md_rb {f m k S n : Nat} {pt : Nat → Prop} (hf : f ≤ W) (hm : m ≤ W) (h : md_U L 0 pt (md_wk W f) m k S n) (hc : ∀ j, j < m → (S.testBit (md_wk W f j) = true → ¬ B (md_wk W f j)) ∧ (U (md_wk W f j) → S.testBit (md_wk W f j) = true)) : md_R L 0 pt (fun j => ¬ B (md_wk W f j)) (fun j => U (md_wk W f j)) (md_wk W f) m k S n := md_R.rb (fun i j hi hj => md_wk.inj hf (by omega) (by omega)) h hc
/-- the sets behind it -/
theorem md_G.iff (hW : 0 < W) (hz : z ↔ ∀ j, j < W → ¬ U j) (n : Nat) : md_G c W L U B z n ↔ ∃ S, md_A c W L S n ∧ ∀ j, j < W → (S.testBit j = true → ¬ B j) ∧ (U j → S.testBit j = true) := by
  constructor
  · intro h
    rcases h with ⟨F, h1, h2, h3, k, S, h4⟩ | ⟨h0, ⟨h1, h2, h3⟩ | ⟨x, b, h1, h2, ⟨k, T, h3⟩, h4⟩⟩
    · obtain ⟨g1, g2⟩ := md_br (by omega) (Nat.le_refl W) h4
      refine ⟨S, Or.inl ⟨F, k, h1, h2, h3, g1⟩, fun j hj => ?_⟩
      have q := g2 (if F ≤ j then j - F else j + W - F) (by split <;> omega)
      rw [md_wk.sur (by omega) hj] at q
      exact q
    · refine ⟨0, Or.inr ⟨h0, Or.inl ⟨h1, rfl, h3⟩⟩, fun j hj => ?_⟩
      rw [Nat.zero_testBit]
      exact ⟨fun q => absurd q (by decide), fun q => absurd q (hz.mp h2 j hj)⟩
    · have hi : ∀ i j, i < W - 1 + 1 → j < W - 1 + 1 → md_wk W (x + 1) i = md_wk W (x + 1) j → i = j := fun i j hi hj => md_wk.inj (by omega) (by omega) (by omega)
      obtain ⟨g1, g2⟩ := md_br (U := fun j => U j ∧ j ≠ x) (by omega) (Nat.sub_le W 1) h3
      have q := md_R.nb hi h3
      rw [md_wk.e (by omega) (by omega), if_neg (by omega), show x + 1 + (W - 1) - W = x by omega] at q
      refine ⟨T + 2 ^ x, Or.inr ⟨h0, Or.inr ⟨x, k, T, b, h1, g1, rfl, h4⟩⟩, fun j hj => ?_⟩
      rw [md_ab _ _ q]
      by_cases e : j = x
      · rw [e, decide_eq_true (show x = x from rfl), Bool.or_true]
        exact ⟨fun _ => h2, fun _ => rfl⟩
      · rw [decide_eq_false (show ¬ x = j from fun q => e q.symm), Bool.or_false]
        have q2 := g2 (if x + 1 ≤ j then j - (x + 1) else j + W - (x + 1)) (by split <;> omega)
        rw [md_wk.sur (by omega) hj] at q2
        exact ⟨q2.1, fun q3 => q2.2 ⟨q3, e⟩⟩
  · intro h
    obtain ⟨S, h, hc⟩ := h
    rcases h with ⟨F, k, h1, h2, h3, h4⟩ | ⟨h0, ⟨h1, h2, h3⟩ | ⟨x, k, T, b, h1, h2, h3, h4⟩⟩
    · exact Or.inl ⟨F, h1, h2, h3, k, S, md_rb (by omega) (Nat.le_refl W) h4 (fun j _ => hc _ (md_wk.lt hW))⟩
    · refine Or.inr ⟨h0, Or.inl ⟨h1, hz.mpr (fun j hj q => ?_), h3⟩⟩
      have q2 := (hc j hj).2 q
      rw [h2, Nat.zero_testBit] at q2
      exact absurd q2 (by decide)
    · have hi : ∀ i j, i < W - 1 + 1 → j < W - 1 + 1 → md_wk W (x + 1) i = md_wk W (x + 1) j → i = j := fun i j hi hj => md_wk.inj (by omega) (by omega) (by omega)
      have q := md_R.nb hi h2
      rw [md_wk.e (by omega) (by omega), if_neg (by omega), show x + 1 + (W - 1) - W = x by omega] at q
      have hx := hc x h1
      rw [h3, md_ab _ _ q, decide_eq_true (show x = x from rfl), Bool.or_true] at hx
      refine Or.inr ⟨h0, Or.inr ⟨x, b, h1, hx.1 rfl, ⟨k, T, md_rb (U := fun j => U j ∧ j ≠ x) (by omega) (Nat.sub_le W 1) h2 (fun j hj => ?_)⟩, h4⟩⟩
      have hne : ¬ x = md_wk W (x + 1) j := fun e => by
        rw [md_wk.e (by omega) (by omega)] at e
        split at e <;> omega
      have q2 := hc (md_wk W (x + 1) j) (md_wk.lt hW)
      rw [h3, md_ab _ _ q, decide_eq_false hne, Bool.or_false] at q2
      exact ⟨q2.1, fun q3 => q2.2 q3.1⟩
/-- all mended -/
theorem md_U.all {s : Nat} {pt : Nat → Prop} {x : Nat → Nat} : ∀ k, ∃ S n, md_U L s pt x k n S k := fun k => by
  induction k with
  | zero => exact ⟨0, s, md_R.z.mpr ⟨rfl, rfl, rfl⟩⟩
  | succ k ih =>
    obtain ⟨S, n, h⟩ := ih
    exact ⟨S + 2 ^ x k, 0, md_R.s.mpr (Or.inl ⟨trivial, rfl, n, S, k, h, rfl, rfl⟩)⟩
theorem md_first : (∃ F, F < W ∧ fs_st c W F ∧ ∀ x, x < F → ¬ fs_st c W x) ∨ ∀ x, x < W → ¬ fs_st c W x := by
  obtain ⟨F, h⟩ := fs_F.ex c W
  rcases h with ⟨-, h⟩ | ⟨h1, h2, h3⟩
  · exact Or.inr h
  · exact Or.inl ⟨F, h1, h2, h3⟩
theorem md_A.ex (hW : 0 < W) : ∃ S, md_A c W L S W := by
  rcases md_first (c := c) (W := W) with ⟨F, h1, h2, h3⟩ | h
  · obtain ⟨S, n, h4⟩ := md_U.all (L := L) (s := 0) (pt := fun j => fs_st c W (md_wk W F j)) (x := md_wk W F) W
    exact ⟨S, Or.inl ⟨F, n, h1, h2, h3, h4⟩⟩
  · obtain ⟨S, n, h4⟩ := md_U.all (L := L) (s := 0) (pt := fun j => fs_st c W (md_wk W (0 + 1) j)) (x := md_wk W (0 + 1)) (W - 1)
    exact ⟨S + 2 ^ 0, Or.inr ⟨h, Or.inr ⟨0, n, S, W - 1, hW, h4, rfl, by omega⟩⟩⟩
end PmMg
/-- the columns from X on are settled: M are mended, B are not; n: the fewest -/
def md_g (c : Nat → Int32) (W L n X M B : Nat) : Prop := M < 2 ^ W ∧ (∃ a, M = 2 ^ X * a) ∧ (∀ j, j < W → (B.testBit j = true ↔ (X ≤ j ∧ M.testBit j = false))) ∧ (∃ S, md_A c W L S n ∧ S / 2 ^ X = M / 2 ^ X) ∧ ∀ S, md_A c W L S n → M / 2 ^ X ≤ S / 2 ^ X
section PmMgr
variable {c : Nat → Int32} {W L n M B : Nat}
theorem md_g.start (hW : 0 < W) (h : ∃ S, md_A c W L S n) : md_g c W L n W 0 0 := by
  obtain ⟨S, h⟩ := h
  have hz : ∀ S, md_A c W L S n → S / 2 ^ W = 0 := fun S hS => Nat.div_eq_of_lt (md_A.lt hW hS)
  refine ⟨Nat.two_pow_pos W, ⟨0, rfl⟩, fun j hj => ?_, ⟨S, h, by rw [hz S h, Nat.zero_div]⟩, fun S hS => by rw [Nat.zero_div]; exact Nat.zero_le _⟩
  rw [Nat.zero_testBit]
  exact ⟨fun q => absurd q (by decide), fun q => by omega⟩
theorem md_g.fin {X : Nat} (h : md_g c W L n X M B) (hX : X = 0) (hm : ∀ S b, md_A c W L S b → n ≤ b) : md_best c W L M := by
  subst hX
  obtain ⟨-, -, -, ⟨S, h1, h2⟩, h3⟩ := h
  rw [show 2 ^ 0 = 1 from rfl, Nat.div_one, Nat.div_one] at h2
  refine ⟨n, by rw [← h2]; exact h1, hm, fun S hS => ?_⟩
  have q := h3 S hS
  rw [show 2 ^ 0 = 1 from rfl, Nat.div_one, Nat.div_one] at q
  exact q
theorem md_dv (S x : Nat) : S / 2 ^ x = 2 * (S / 2 ^ (x + 1)) + (if S.testBit x = true then 1 else 0) := by
  rw [Nat.testBit_eq_decide_div_mod_eq, Nat.pow_succ, ← Nat.div_div_eq_div_mul]
  by_cases e : S / 2 ^ x % 2 = 1
  · rw [if_pos (decide_eq_true e)]
    omega
  · rw [if_neg (fun q => e (of_decide_eq_true q))]
    omega
/-- the bits of what is settled -/
theorem md_g.lo {X a : Nat} (h : M = 2 ^ X * a) {j : Nat} (hj : j < X) : M.testBit j = false := by
  rw [h, Nat.testBit_two_pow_mul, decide_eq_false (by omega), Bool.false_and]
/-- sets that keep to what is asked -/
theorem md_g.agree {x S : Nat} (h : md_g c W L n (x + 1) M B) (hS : S < 2 ^ W) : (∀ j, j < W → (S.testBit j = true → ¬ (B.testBit j = true ∨ j = x)) ∧ (M.testBit j = true → S.testBit j = true)) → x < W → S / 2 ^ (x + 1) = M / 2 ^ (x + 1) ∧ S.testBit x = false := fun hc hx => by
  obtain ⟨h1, ⟨a, h2⟩, h3, -⟩ := h
  refine ⟨Nat.eq_of_testBit_eq (fun i => ?_), ?_⟩
  · rw [Nat.testBit_div_two_pow, Nat.testBit_div_two_pow]
    by_cases e : i + (x + 1) < W
    · have q := hc _ e
      have q3 := h3 _ e
      cases hM : M.testBit (i + (x + 1)) with
      | true => exact q.2 hM
      | false =>
        cases hB : S.testBit (i + (x + 1)) with
        | false => rfl
        | true => exact absurd (Or.inl (q3.mpr ⟨by omega, hM⟩)) (q.1 hB)
    · rw [Nat.testBit_lt_two_pow (Nat.lt_of_lt_of_le hS (Nat.pow_le_pow_right (by decide) (by omega))), Nat.testBit_lt_two_pow (Nat.lt_of_lt_of_le h1 (Nat.pow_le_pow_right (by decide) (by omega)))]
  · cases hB : S.testBit x with
    | false => rfl
    | true => exact absurd (Or.inr rfl) ((hc x hx).1 hB)
theorem md_g.agree2 {x S : Nat} (h : md_g c W L n (x + 1) M B) (e1 : S / 2 ^ (x + 1) = M / 2 ^ (x + 1)) (e2 : S.testBit x = false) : ∀ j, j < W → (S.testBit j = true → ¬ (B.testBit j = true ∨ j = x)) ∧ (M.testBit j = true → S.testBit j = true) := fun j hj => by
  obtain ⟨h1, ⟨a, h2⟩, h3, -⟩ := h
  by_cases e : x + 1 ≤ j
  · have q := congrArg (fun t => Nat.testBit t (j - (x + 1))) e1
    rw [Nat.testBit_div_two_pow, Nat.testBit_div_two_pow, show j - (x + 1) + (x + 1) = j by omega] at q
    refine ⟨fun s1 s2 => ?_, fun s1 => by rw [q]; exact s1⟩
    rcases s2 with s2 | s2
    · have s3 := ((h3 j hj).mp s2).2
      rw [← q, s1] at s3
      exact absurd s3 (by decide)
    · omega
  · refine ⟨fun s1 s2 => ?_, fun s1 => ?_⟩
    · rcases s2 with s2 | s2
      · have := ((h3 j hj).mp s2).1
        omega
      · rw [s2, e2] at s1
        exact absurd s1 (by decide)
    · rw [md_g.lo h2 (by omega)] at s1
      exact absurd s1 (by decide)
/-- the column is barred: as few suffice -/
theorem md_g.yes {x B' : Nat} (hW : 0 < W) (hx : x < W) (h : md_g c W L n (x + 1) M B) (hB : ∀ j, j < W → (B'.testBit j = true ↔ (B.testBit j = true ∨ j = x))) (hy : ∃ S, md_A c W L S n ∧ ∀ j, j < W → (S.testBit j = true → ¬ (B.testBit j = true ∨ j = x)) ∧ (M.testBit j = true → S.testBit j = true)) : md_g c W L n x M B' := by
  obtain ⟨S, hS, hc⟩ := hy
  obtain ⟨g1, g2⟩ := h.agree (md_A.lt hW hS) hc hx
  have hh := h
  obtain ⟨h1, ⟨a, h2⟩, h3, h4, h5⟩ := h
  have hMx : M.testBit x = false := md_g.lo h2 (by omega)
  refine ⟨h1, ⟨2 * a, by rw [h2, Nat.pow_succ, Nat.mul_assoc]⟩, fun j hj => ?_, ⟨S, hS, ?_⟩, fun S2 hS2 => ?_⟩
  · rw [hB j hj, h3 j hj]
    constructor
    · intro q
      rcases q with ⟨q1, q2⟩ | q
      · exact ⟨by omega, q2⟩
      · rw [q]
        exact ⟨Nat.le_refl _, hMx⟩
    · intro q
      by_cases e : j = x
      · exact Or.inr e
      · exact Or.inl ⟨by omega, q.2⟩
  · rw [md_dv S x, md_dv M x, g1, g2, hMx]
  · have q := h5 S2 hS2
    rw [md_dv S2 x, md_dv M x, hMx, if_neg (show ¬ (false : Bool) = true by decide)]
    split <;> omega
/-- the column must be mended -/
theorem md_g.no {x : Nat} (hW : 0 < W) (hx : x < W) (h : md_g c W L n (x + 1) M B) (hn : ¬ ∃ S, md_A c W L S n ∧ ∀ j, j < W → (S.testBit j = true → ¬ (B.testBit j = true ∨ j = x)) ∧ (M.testBit j = true → S.testBit j = true)) : md_g c W L n x (M ||| 2 ^ x) B := by
  have hh := h
  obtain ⟨h1, ⟨a, h2⟩, h3, ⟨S, h4, h4b⟩, h5⟩ := h
  have hMx : M.testBit x = false := md_g.lo h2 (by omega)
  have hbit : ∀ S, md_A c W L S n → S / 2 ^ (x + 1) = M / 2 ^ (x + 1) → S.testBit x = true := fun S hS e => by
    cases q : S.testBit x with
    | true => rfl
    | false => exact absurd ⟨S, hS, hh.agree2 e q⟩ hn
  have hM : (M ||| 2 ^ x) / 2 ^ x = 2 * (M / 2 ^ (x + 1)) + 1 := by
    rw [md_dv (M ||| 2 ^ x) x, Nat.testBit_or, Nat.testBit_two_pow_self, Bool.or_true, if_pos rfl, Nat.or_div_two_pow, Nat.div_eq_of_lt (show 2 ^ x < 2 ^ (x + 1) from Nat.pow_lt_pow_right (by decide) (by omega)), Nat.or_zero]
  refine ⟨Nat.or_lt_two_pow h1 (Nat.pow_lt_pow_right (by decide) hx), ⟨2 * a + 1, ?_⟩, fun j hj => ?_, ⟨S, h4, ?_⟩, fun S2 hS2 => ?_⟩
  · rw [md_or hMx, h2, Nat.pow_succ, Nat.mul_add, Nat.mul_one, Nat.mul_assoc]
  · rw [h3 j hj, Nat.testBit_or, Nat.testBit_two_pow]
    constructor
    · intro q
      exact ⟨by omega, by rw [q.2, decide_eq_false (show ¬ x = j by omega), Bool.or_false]⟩
    · intro q
      obtain ⟨q1, q2⟩ := q
      by_cases e : x = j
      · rw [decide_eq_true e, Bool.or_true] at q2
        exact absurd q2 (by decide)
      · rw [decide_eq_false e, Bool.or_false] at q2
        exact ⟨by omega, q2⟩
  · rw [hM, md_dv S x, hbit S h4 h4b, if_pos rfl, h4b]
  · have q := h5 S2 hS2
    rw [hM, md_dv S2 x]
    by_cases e : S2 / 2 ^ (x + 1) = M / 2 ^ (x + 1)
    · rw [hbit S2 hS2 e, if_pos rfl]
      omega
    · split <;> omega
end PmMgr
