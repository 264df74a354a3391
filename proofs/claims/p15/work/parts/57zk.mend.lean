/-- v is the least of P -/
def md_km (P : Nat → Prop) (v : Int) : Prop := 0 ≤ v ∧ (∀ K, P K → v ≤ (K : Int)) ∧ P v.toNat
theorem md_km.congr {P Q : Nat → Prop} {v : Int} (h : md_km P v) (e : ∀ K, Q K ↔ P K) : md_km Q v := ⟨h.1, fun K hK => h.2.1 K ((e K).mp hK), (e _).mpr h.2.2⟩
theorem md_km.add {P Q R : Nat → Prop} {v u : Int} (h : md_km P v) (g : md_km Q u) (e : ∀ K, R K ↔ ∃ a b, P a ∧ Q b ∧ K = a + b) : md_km R (v + u) := by
  obtain ⟨h1, h2, h3⟩ := h
  obtain ⟨g1, g2, g3⟩ := g
  refine ⟨by omega, fun K hK => ?_, (e _).mpr ⟨_, _, h3, g3, by omega⟩⟩
  obtain ⟨a, b, q1, q2, q3⟩ := (e K).mp hK
  have := h2 a q1
  have := g2 b q2
  omega
theorem md_km.plus {P R : Nat → Prop} {v : Int} (d : Nat) (h : md_km P v) (e : ∀ K, R K ↔ ∃ a, P a ∧ K = a + d) : md_km R (v + d) := by
  obtain ⟨h1, h2, h3⟩ := h
  refine ⟨by omega, fun K hK => ?_, (e _).mpr ⟨_, h3, by omega⟩⟩
  obtain ⟨a, q1, q2⟩ := (e K).mp hK
  have := h2 a q1
  omega
/-- what k columns cost: 1048576 and its bit, each of the mended -/
def md_E (L s : Nat) (pt : Nat → Prop) (x : Nat → Nat) (k K : Nat) : Prop := ∃ n S c, md_U L s pt x k n S c ∧ K = c * 1048576 + S
/-- the last of them mended -/
def md_D (L : Nat) (x : Nat → Nat) (k K : Nat) : Prop := ∃ S c, md_U L 0 (fun _ => False) x k 0 S c ∧ K = c * 1048576 + S
theorem md_ar (a b c d : Nat) : a + b + (c + d) = a + c + (b + d) := by omega
section PmMe
variable {L s k K : Nat} {pt : Nat → Prop} {x : Nat → Nat}
theorem md_D.z : md_km (md_D L x 0) 0 := ⟨by decide, fun K _ => by omega, 0, 0, md_R.z.mpr ⟨rfl, rfl, rfl⟩, rfl⟩
theorem md_D.ss : md_D L x (k + 1) K ↔ ∃ a, md_E L 0 (fun _ => False) x k a ∧ K = a + (1048576 + 2 ^ x k) := by
  constructor
  · intro h
    obtain ⟨S, c, h1, h2⟩ := h
    rcases md_R.s.mp h1 with ⟨-, -, m, T, b, h3, h4, h5⟩ | ⟨-, -, m, h3, ⟨h4, -⟩ | ⟨-, h4⟩⟩
    · exact ⟨b * 1048576 + T, ⟨m, T, b, h3, rfl⟩, by rw [h2, h5, h4, Nat.add_mul, Nat.one_mul]; exact md_ar _ _ _ _⟩
    · exact absurd h4 (fun q => q)
    · omega
  · intro h
    obtain ⟨a, ⟨m, T, b, h1, h2⟩, h3⟩ := h
    exact ⟨T + 2 ^ x k, b + 1, md_R.s.mpr (Or.inl ⟨trivial, rfl, m, T, b, h1, rfl, rfl⟩), by omega⟩
/-- within a run: how long it is since the last mended one -/
theorem md_R.run : ∀ k n S c, md_U L 0 (fun _ => False) x k n S c ↔ n ≤ k ∧ n ≤ L ∧ md_U L 0 (fun _ => False) x (k - n) 0 S c := fun k => by
  induction k with
  | zero =>
    intro n S c
    constructor
    · intro h
      obtain ⟨e1, e2, e3⟩ := md_R.z.mp h
      subst e1
      exact ⟨Nat.le_refl _, Nat.zero_le _, h⟩
    · intro h
      obtain ⟨h1, h2, h3⟩ := h
      have e : n = 0 := by omega
      subst e
      exact h3
  | succ k ih =>
    intro n S c
    constructor
    · intro h
      rcases md_R.s.mp h with ⟨-, h2, -⟩ | ⟨-, h2, m, h3, ⟨h4, -⟩ | ⟨-, h4⟩⟩
      · subst h2
        exact ⟨Nat.zero_le _, Nat.zero_le _, h⟩
      · exact absurd h4 (fun q => q)
      · obtain ⟨g1, g2, g3⟩ := (ih m S c).mp h3
        refine ⟨by omega, h2, ?_⟩
        rw [show k + 1 - n = k - m by omega]
        exact g3
    · intro h
      obtain ⟨h1, h2, h3⟩ := h
      by_cases e : n = 0
      · subst e
        exact h3
      · obtain ⟨m, rfl⟩ : ∃ m, n = m + 1 := ⟨n - 1, by omega⟩
        rw [show k + 1 - (m + 1) = k - m by omega] at h3
        exact md_R.s.mpr (Or.inr ⟨fun q => q, h2, m, (ih m S c).mpr ⟨by omega, by omega, h3⟩, Or.inr ⟨fun q => q, rfl⟩⟩)
theorem md_E.run : md_E L 0 (fun _ => False) x k K ↔ ∃ j, j ≤ k ∧ k ≤ j + L ∧ md_D L x j K := by
  constructor
  · intro h
    obtain ⟨n, S, c, h1, h2⟩ := h
    obtain ⟨g1, g2, g3⟩ := (md_R.run k n S c).mp h1
    exact ⟨k - n, by omega, by omega, S, c, g3, h2⟩
  · intro h
    obtain ⟨j, h1, h2, S, c, h3, h4⟩ := h
    exact ⟨k - j, S, c, (md_R.run k (k - j) S c).mpr ⟨by omega, by omega, by rw [show k - (k - j) = j by omega]; exact h3⟩, h4⟩
/-- the least of what is within reach -/
theorem md_cheap {h : Nat → Int} {r : Int} (hd : ∀ j, j ≤ k → md_km (md_D L x j) (h j)) (h1 : ∀ j, j ≤ k → k ≤ j + L → r ≤ h j) (h2 : ∃ j, j ≤ k ∧ k ≤ j + L ∧ r = h j) : md_km (md_E L 0 (fun _ => False) x k) r := by
  obtain ⟨j, j1, j2, j3⟩ := h2
  have q := hd j j1
  refine ⟨by rw [j3]; exact q.1, fun K hK => ?_, md_E.run.mpr ⟨j, j1, j2, by rw [j3]; exact q.2.2⟩⟩
  obtain ⟨i, i1, i2, i3⟩ := md_E.run.mp hK
  have a := h1 i i1 i2
  have b := (hd i i1).2.1 K i3
  omega
theorem md_D.on {v : Int} (h : md_km (md_E L 0 (fun _ => False) x k) v) : md_km (md_D L x (k + 1)) (v + ((1048576 + 2 ^ x k : Nat) : Int)) := h.plus _ (fun _ => md_D.ss)
/-- no run begins within: it doesn't matter whether one begins with it -/
theorem md_R.nop : ∀ k, (∀ j, 1 ≤ j → j < k → ¬ pt j) → ∀ n S c, md_U L 0 pt x k n S c ↔ md_U L 0 (fun _ => False) x k n S c := fun k => by
  induction k with
  | zero => intro _ n S c; exact md_R.z.trans md_R.z.symm
  | succ k ih =>
    intro hp n S c
    have ih2 := ih (fun j j1 j2 => hp j j1 (by omega))
    constructor
    · intro h
      refine md_R.s.mpr ?_
      rcases md_R.s.mp h with ⟨h1, h2, m, T, b, h3, h4⟩ | ⟨h1, h2, m, h3, h4⟩
      · exact Or.inl ⟨h1, h2, m, T, b, (ih2 _ _ _).mp h3, h4⟩
      · refine Or.inr ⟨h1, h2, m, (ih2 _ _ _).mp h3, Or.inr ⟨fun q => q, ?_⟩⟩
        rcases h4 with ⟨q1, q2⟩ | ⟨q1, q2⟩
        · by_cases e : k = 0
          · subst e
            have := md_R.z.mp h3
            omega
          · exact absurd q1 (hp k (by omega) (by omega))
        · exact q2
    · intro h
      refine md_R.s.mpr ?_
      rcases md_R.s.mp h with ⟨h1, h2, m, T, b, h3, h4⟩ | ⟨h1, h2, m, h3, h4⟩
      · exact Or.inl ⟨h1, h2, m, T, b, (ih2 _ _ _).mpr h3, h4⟩
      · refine Or.inr ⟨h1, h2, m, (ih2 _ _ _).mpr h3, ?_⟩
        rcases h4 with ⟨q1, -⟩ | ⟨-, q2⟩
        · exact absurd q1 (fun q => q)
        · by_cases c1 : pt k
          · refine Or.inl ⟨c1, ?_⟩
            by_cases e : k = 0
            · subst e
              have := md_R.z.mp h3
              omega
            · exact absurd c1 (hp k (by omega) (by omega))
          · exact Or.inr ⟨c1, q2⟩
/-- a run more -/
theorem md_E.more {p q : Nat} (hq : 1 ≤ q) (h0 : p = 0 ∨ pt p) (hn : ∀ j, p < j → j < p + q → ¬ pt j) : md_E L 0 pt x (p + q) K ↔ ∃ a b, md_E L 0 pt x p a ∧ md_E L 0 (fun _ => False) (fun j => x (p + j)) q b ∧ K = a + b := by
  have hp : ∀ j, 1 ≤ j → j < q → ¬ pt (p + j) := fun j j1 j2 => hn (p + j) (by omega) (by omega)
  constructor
  · intro h
    obtain ⟨n, S, c, h1, h2⟩ := h
    obtain ⟨m, T, b, S2, c2, g1, g2, g3, g4⟩ := (md_R.split p q n S c).mp h1
    have g5 : md_U L 0 (fun j => pt (p + j)) (fun j => x (p + j)) q n S2 c2 := by
      rcases h0 with e | e
      · subst e
        have := md_R.z.mp g1
        rw [show m = 0 by omega] at g2
        exact g2
      · obtain ⟨q', rfl⟩ : ∃ q', q = q' + 1 := ⟨q - 1, by omega⟩
        exact md_R.reset (show pt (p + 0) from e) q' n S2 c2 g2
    exact ⟨b * 1048576 + T, c2 * 1048576 + S2, ⟨m, T, b, g1, rfl⟩, ⟨n, S2, c2, (md_R.nop q hp n S2 c2).mp g5, rfl⟩, by rw [h2, g4, g3, Nat.add_mul]; exact md_ar _ _ _ _⟩
  · intro h
    obtain ⟨a, d, ⟨m, T, b, g1, g2⟩, ⟨n, S2, c2, g3, g4⟩, h3⟩ := h
    have g5 := (md_R.nop (pt := fun j => pt (p + j)) q hp n S2 c2).mpr g3
    have g6 : md_U L m (fun j => pt (p + j)) (fun j => x (p + j)) q n S2 c2 := by
      rcases h0 with e | e
      · subst e
        have := md_R.z.mp g1
        rw [show m = 0 by omega]
        exact g5
      · obtain ⟨q', rfl⟩ : ∃ q', q = q' + 1 := ⟨q - 1, by omega⟩
        exact md_R.reset (show pt (p + 0) from e) q' n S2 c2 g5
    exact ⟨n, T + S2, b + c2, (md_R.split p q n (T + S2) (b + c2)).mpr ⟨m, T, b, S2, c2, g1, g6, rfl, rfl⟩, by omega⟩
theorem md_E.zz : md_km (md_E L 0 pt x 0) 0 := ⟨by decide, fun K _ => by omega, 0, 0, 0, md_R.z.mpr ⟨rfl, rfl, rfl⟩, rfl⟩
theorem md_E.bd {v : Int} (hx : ∀ i j, i < k → j < k → x i = x j → i = j) (hw : ∀ j, j < k → x j < 20) (hk : k ≤ 20) (h : md_km (md_E L s pt x k) v) : v ≤ 20 * 1048576 + 1048575 := by
  obtain ⟨h1, -, n, S, c, h2, h3⟩ := h
  have e1 := md_R.cnt h2
  have e2 := md_R.lt (W := 20) hx hw h2
  rw [show 2 ^ 20 = 1048576 from rfl] at e2
  omega
end PmMe
/-- the least cost has the least set -/
theorem md_best.of {c : Nat → Int32} {W L : Nat} {v : Int} (hW : 0 < W) (hW2 : W ≤ 20) (h : md_km (fun K => ∃ S n, md_A c W L S n ∧ K = n * 1048576 + S) v) : md_best c W L (v.toNat % 1048576) := by
  obtain ⟨h1, h2, S, n, h3, h4⟩ := h
  have hlt : ∀ S n, md_A c W L S n → S < 1048576 := fun S n hS => Nat.lt_of_lt_of_le (md_A.lt hW hS) (show 2 ^ W ≤ 2 ^ 20 from Nat.pow_le_pow_right (by decide) hW2)
  have e := hlt S n h3
  rw [show v.toNat % 1048576 = S by omega]
  refine ⟨n, h3, fun T b hT => ?_, fun T hT => ?_⟩
  · have := h2 _ ⟨T, b, hT, rfl⟩
    have := hlt T b hT
    omega
  · have := h2 _ ⟨T, n, hT, rfl⟩
    omega
/-- a pick with runs -/
theorem md_A.runs {c : Nat → Int32} {W L F : Nat} (hF : F < W ∧ fs_st c W F ∧ ∀ x, x < F → ¬ fs_st c W x) (K : Nat) : (∃ S n, md_A c W L S n ∧ K = n * 1048576 + S) ↔ md_E L 0 (fun j => fs_st c W (md_wk W F j)) (md_wk W F) W K := by
  constructor
  · intro h
    obtain ⟨S, n, h1, h2⟩ := h
    rcases h1 with ⟨G, k, g1, g2, g3, g4⟩ | ⟨h0, -⟩
    · have e : G = F := by
        rcases Nat.lt_trichotomy G F with q | q | q
        · exact absurd g2 (hF.2.2 G q)
        · exact q
        · exact absurd hF.2.1 (g3 F q)
      subst e
      exact ⟨k, S, n, g4, h2⟩
    · exact absurd hF.2.1 (h0 F hF.1)
  · intro h
    obtain ⟨k, S, n, h1, h2⟩ := h
    exact ⟨S, n, Or.inl ⟨F, k, hF.1, hF.2.1, hF.2.2, h1⟩, h2⟩
/-- a plain pick: column 0 is in the least set -/
theorem md_rot {W L : Nat} : ∀ x, x < W → ∀ k T b, md_U L 0 (fun _ => False) (md_wk W (x + 1)) (W - 1) k T b → ∃ k' T', md_U L 0 (fun _ => False) (md_wk W 1) (W - 1) k' T' b ∧ T' + 1 ≤ T + 2 ^ x := fun x => by
  induction x with
  | zero => intro _ k T b h; exact ⟨k, T, h, Nat.le_refl _⟩
  | succ x ih =>
    intro hx k T b h
    obtain ⟨p, hp⟩ : ∃ p, W = p + x + 2 := ⟨W - x - 2, by omega⟩
    have ew : W - 1 = p + (1 + x) := by omega
    rw [ew] at h
    obtain ⟨m, T1, b1, S2, c2, g1, g2, g3, g4⟩ := (md_R.split p (1 + x) k T b).mp h
    obtain ⟨m2, T2, b2, S3, c3, g5, g6, g7, g8⟩ := (md_R.split 1 x k S2 c2).mp g2
    -- the columns of the three pieces
    have w1 : ∀ j, j < p → md_wk W (x + 1 + 1) j = x + 2 + j := fun j hj => by
      rw [md_wk.e (by omega) (by omega), if_pos (by omega)]
    have w2 : md_wk W (x + 1 + 1) (p + 0) = 0 := by
      rw [md_wk.e (by omega) (by omega), if_neg (by omega)]
      omega
    have w3 : ∀ j, j < x → md_wk W (x + 1 + 1) (p + (1 + j)) = 1 + j := fun j hj => by
      rw [md_wk.e (by omega) (by omega), if_neg (by omega)]
      omega
    have g6 : md_U L m2 (fun _ => False) (fun j => 1 + j) x k S3 c3 := md_R.congr x (fun j hj => ⟨(w3 j hj).symm, Iff.rfl, Iff.rfl, Iff.rfl⟩) _ _ _ g6
    have g1 : md_U L 0 (fun _ => False) (fun j => x + 2 + j) p m T1 b1 := md_R.congr p (fun j hj => ⟨(w1 j hj).symm, Iff.rfl, Iff.rfl, Iff.rfl⟩) _ _ _ g1
    rcases md_R.s.mp g5 with ⟨-, q2, m3, T3, b3, q3, q4, q5⟩ | ⟨-, q2, m3, q3, ⟨q4, -⟩ | ⟨-, q4⟩⟩
    · -- column 0 is mended: the same set, cut there
      obtain ⟨r1, r2, r3⟩ := md_R.z.mp q3
      have q4 : T2 = T3 + 2 ^ (md_wk W (x + 1 + 1) (p + 0)) := q4
      rw [w2] at q4
      subst q2
      have a1 : md_U L 0 (fun _ => False) (md_wk W 1) x k S3 c3 := md_R.congr x (fun j hj => ⟨by rw [md_wk.e (by omega) (by omega), if_pos (by omega)], Iff.rfl, Iff.rfl, Iff.rfl⟩) _ _ _ g6
      have a2 : md_U L 0 (fun _ => False) (md_wk W 1) (x + 1) 0 (S3 + 2 ^ (x + 1)) (c3 + 1) := md_R.s.mpr (Or.inl ⟨trivial, rfl, k, S3, c3, a1, by rw [md_wk.e (by omega) (by omega), if_pos (by omega), Nat.add_comm 1 x], rfl⟩)
      have a3 : md_U L 0 (fun _ => False) (fun j => md_wk W 1 (x + 1 + j)) p m T1 b1 := md_R.congr p (fun j hj => ⟨by rw [md_wk.e (by omega) (by omega), if_pos (by omega)]; omega, Iff.rfl, Iff.rfl, Iff.rfl⟩) _ _ _ g1
      refine ⟨m, S3 + 2 ^ (x + 1) + T1, ?_, by rw [show 2 ^ 0 = 1 from rfl] at q4; omega⟩
      rw [show W - 1 = x + 1 + p by omega]
      refine (md_R.split (x + 1) p m _ b).mpr ⟨0, S3 + 2 ^ (x + 1), c3 + 1, T1, b1, a2, a3, rfl, by omega⟩
    · exact absurd q4 (fun q => q)
    · -- it is not: all go one column down
      obtain ⟨r1, r2, r3⟩ := md_R.z.mp q3
      obtain ⟨A, a1, a2⟩ := md_R.shift (x' := fun j => x + 1 + j) p (fun j _ => by omega) _ _ _ g1
      obtain ⟨B, b1', b2'⟩ := md_R.shift (x' := fun j => j) x (fun j _ => by omega) _ _ _ g6
      have a3 : md_U L 0 (fun _ => False) (md_wk W (x + 1)) p m A b1 := md_R.congr p (fun j hj => ⟨by rw [md_wk.e (by omega) (by omega), if_pos (by omega)], Iff.rfl, Iff.rfl, Iff.rfl⟩) _ _ _ a2
      have a4 : md_U L 0 (fun _ => False) (md_wk W (x + 1)) (p + 1) m2 A b1 := md_R.s.mpr (Or.inr ⟨fun q => q, q2, m, a3, Or.inr ⟨fun q => q, by omega⟩⟩)
      have a5 : md_U L m2 (fun _ => False) (fun j => md_wk W (x + 1) (p + 1 + j)) x k B c3 := md_R.congr x (fun j hj => ⟨by rw [md_wk.e (by omega) (by omega), if_neg (by omega)]; omega, Iff.rfl, Iff.rfl, Iff.rfl⟩) _ _ _ b2'
      have a6 := (md_R.split (L := L) (s := 0) (pt := fun _ => False) (ok := fun _ => True) (mu := fun _ => False) (x := md_wk W (x + 1)) (p + 1) x k (A + B) b).mpr ⟨m2, A, b1, B, c3, a4, a5, rfl, by omega⟩
      rw [show p + 1 + x = W - 1 by omega] at a6
      obtain ⟨k', T', z1, z2⟩ := ih (by omega) k (A + B) b a6
      refine ⟨k', T', z1, ?_⟩
      rw [Nat.pow_succ]
      omega
/-- a plain pick that is too long -/
theorem md_A.plain {c : Nat → Int32} {W L : Nat} {v : Int} (hW : 0 < W) (h0 : ∀ x, x < W → ¬ fs_st c W x) (hL : L < W) (h : md_km (md_E L 0 (fun _ => False) (md_wk W 1) (W - 1)) v) : md_km (fun K => ∃ S n, md_A c W L S n ∧ K = n * 1048576 + S) (v + 1048577) := by
  have hpt : ∀ x k T b, md_U L 0 (fun j => fs_st c W (md_wk W (x + 1) j)) (md_wk W (x + 1)) (W - 1) k T b ↔ md_U L 0 (fun _ => False) (md_wk W (x + 1)) (W - 1) k T b := fun x k T b => md_R.nop (W - 1) (fun j _ _ => h0 _ (md_wk.lt hW)) k T b
  obtain ⟨h1, h2, k, S, n, h3, h4⟩ := h
  refine ⟨by omega, fun K hK => ?_, S + 2 ^ 0, n + 1, Or.inr ⟨h0, Or.inr ⟨0, k, S, n, hW, (hpt 0 k S n).mpr h3, rfl, rfl⟩⟩, by rw [show 2 ^ 0 = 1 from rfl]; omega⟩
  obtain ⟨S2, n2, hA, hK2⟩ := hK
  rcases hA with ⟨F, -, q1, q2, -⟩ | ⟨-, ⟨q1, -⟩ | ⟨x, k2, T, b, q1, q2, q3, q4⟩⟩
  · exact absurd q2 (h0 F q1)
  · omega
  · obtain ⟨k', T', z1, z2⟩ := md_rot x q1 k2 T b ((hpt x k2 T b).mp q2)
    have := h2 (b * 1048576 + T') ⟨k', T', b, z1, rfl⟩
    omega
theorem md_A.short {c : Nat → Int32} {W L : Nat} (h0 : ∀ x, x < W → ¬ fs_st c W x) (hL : W ≤ L) : md_best c W L 0 := ⟨0, Or.inr ⟨h0, Or.inl ⟨hL, rfl, rfl⟩⟩, fun _ _ _ => Nat.zero_le _, fun _ _ => Nat.zero_le _⟩

