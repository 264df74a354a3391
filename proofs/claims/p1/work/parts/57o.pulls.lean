theorem pm_sh0 : ∀ c, c < 32 → ¬ ((1 : Int32) <<< (nI c &&& 31)) = 0 := by decide +kernel
/-- the colours of a pick, as bits -/
noncomputable def hm (ds : List Int32) (y : Nat) : Nat → Nat
  | 0 => 0
  | x + 1 => hm ds y x ||| 2 ^ (sq_c ds x y).toInt.toNat
theorem sq_cl.c {ds : List Int32} (h : sq_cl ds) (x y : Nat) : 0 ≤ (sq_c ds x y).toInt ∧ (sq_c ds x y).toInt ≤ 3 := h.at (20 * y + x)
theorem hm_lt {ds : List Int32} (h : sq_cl ds) (y x : Nat) : hm ds y x < 16 := by
  induction x with
  | zero => exact (by decide : 0 < 16)
  | succ x ih =>
    have hc := h.c x y
    have hp : 2 ^ (sq_c ds x y).toInt.toNat < 2 ^ 4 := Nat.pow_lt_pow_right (by decide) (by omega)
    exact Nat.or_lt_two_pow (n := 4) ih hp
theorem hm_step {ds : List Int32} (h : sq_cl ds) {x y : Nat} {z : Int32} (hz : z = sq_c ds x y) : (nI (hm ds y x) ||| ((1 : Int32) <<< (z &&& 31))) = nI (hm ds y (x + 1)) := by
  have hc := h.c x y
  have q := pm_sh1 z.toInt.toNat (by rw [hz]; omega)
  rw [← i_nI (show 0 ≤ z.toInt by rw [hz]; omega)] at q
  rw [q, nI_or, hz]
  rfl
theorem hm_bit {ds : List Int32} {y c : Nat} (x : Nat) : (hm ds y x).testBit c = true ↔ ∃ j, j < x ∧ (sq_c ds j y).toInt.toNat = c := by
  induction x with
  | zero =>
    constructor
    · intro h
      rw [show hm ds y 0 = 0 from rfl, Nat.zero_testBit] at h
      exact absurd h (by decide)
    · intro h
      obtain ⟨j, hj, -⟩ := h
      omega
  | succ x ih =>
    rw [show hm ds y (x + 1) = hm ds y x ||| 2 ^ (sq_c ds x y).toInt.toNat from rfl, Nat.testBit_or, Bool.or_eq_true, ih]
    constructor
    · intro h
      rcases h with ⟨j, h1, h2⟩ | h
      · exact ⟨j, by omega, h2⟩
      · by_cases e : (sq_c ds x y).toInt.toNat = c
        · exact ⟨x, by omega, e⟩
        · rw [Nat.testBit_two_pow_of_ne e] at h
          exact absurd h (by decide)
    · intro h
      obtain ⟨j, h1, h2⟩ := h
      by_cases e : j < x
      · exact Or.inl ⟨j, e, h2⟩
      · have e2 : j = x := by omega
        subst e2
        rw [h2, Nat.testBit_two_pow_self]
        exact Or.inr rfl
noncomputable def hb (ds : List Int32) (W q : Nat) : Bool := (hm ds (q / 4) W).testBit (q % 4)
theorem hb_at {ds : List Int32} {W y c : Nat} (hc : c < 4) : hb ds W (4 * y + c) = (hm ds y W).testBit c := by
  unfold hb
  rw [show (4 * y + c) / 4 = y by omega, show (4 * y + c) % 4 = c by omega]
noncomputable def hn (ds : List Int32) (W : Nat) : Nat → Nat
  | 0 => 0
  | q + 1 => hn ds W q + (if hb ds W q = true then 1 else 0)
theorem hn_s (ds : List Int32) (W q : Nat) : hn ds W (q + 1) = hn ds W q + (if hb ds W q = true then 1 else 0) := rfl
theorem hn_le (ds : List Int32) (W q : Nat) : hn ds W q ≤ q := by
  induction q with
  | zero => exact Nat.le_refl _
  | succ q ih =>
    rw [hn_s]
    split <;> omega
theorem hn_mono {ds : List Int32} {W q : Nat} (n : Nat) : hn ds W q ≤ hn ds W (q + n) := by
  induction n with
  | zero => exact Nat.le_refl _
  | succ n ih =>
    rw [show q + (n + 1) = (q + n) + 1 by omega, hn_s]
    omega
theorem hn_lt {ds : List Int32} {W q p : Nat} (h : hb ds W q = true) (hq : q < p) : hn ds W q < hn ds W p := by
  have e := hn_mono (ds := ds) (W := W) (q := q + 1) (p - (q + 1))
  rw [show q + 1 + (p - (q + 1)) = p by omega, hn_s, if_pos h] at e
  omega
theorem hn_inj {ds : List Int32} {W q p : Nat} (h : hb ds W q = true) (g : hb ds W p = true) (e : hn ds W q = hn ds W p) : q = p := by
  rcases Nat.lt_trichotomy q p with c | c | c
  · have := hn_lt h c
    omega
  · exact c
  · have := hn_lt g c
    omega
noncomputable def pm_pop (t : Nat) : Nat := (if t.testBit 0 = true then 1 else 0) + (if t.testBit 1 = true then 1 else 0) + (if t.testBit 2 = true then 1 else 0) + (if t.testBit 3 = true then 1 else 0)
theorem pm_pop_le (t : Nat) : pm_pop t ≤ 4 := by
  unfold pm_pop
  repeat' split
  all_goals decide
theorem hn_4 (ds : List Int32) (W y : Nat) : hn ds W (4 * (y + 1)) = hn ds W (4 * y) + pm_pop (hm ds y W) := by
  have e0 := hb_at (ds := ds) (W := W) (y := y) (c := 0) (by decide)
  have e1 := hb_at (ds := ds) (W := W) (y := y) (c := 1) (by decide)
  have e2 := hb_at (ds := ds) (W := W) (y := y) (c := 2) (by decide)
  have e3 := hb_at (ds := ds) (W := W) (y := y) (c := 3) (by decide)
  have s0 := hn_s ds W (4 * y)
  have s1 := hn_s ds W (4 * y + 1)
  have s2 := hn_s ds W (4 * y + 2)
  have s3 := hn_s ds W (4 * y + 3)
  rw [Nat.add_zero] at e0
  rw [e0] at s0
  rw [e1, show 4 * y + 1 + 1 = 4 * y + 2 by omega] at s1
  rw [e2, show 4 * y + 2 + 1 = 4 * y + 3 by omega] at s2
  rw [e3, show 4 * y + 3 + 1 = 4 * (y + 1) by omega] at s3
  unfold pm_pop
  omega
/-- a bit of the pick -/
theorem hb_bit {ds : List Int32} (h : sq_cl ds) {W y : Nat} {t c : Int32} (ht : t = nI (hm ds y W)) (c0 : 0 ≤ c.toInt) (c1 : c.toInt < 4) : (((t >>> (c &&& 31)) &&& 1).toInt = 1 ∧ hb ds W (4 * y + c.toInt.toNat) = true) ∨ (((t >>> (c &&& 31)) &&& 1).toInt = 0 ∧ hb ds W (4 * y + c.toInt.toNat) = false) := by
  have q := pm_fr_bit (hm ds y W) (by have := hm_lt h y W; omega) c.toInt.toNat (by omega)
  rw [← ht, ← i_nI c0] at q
  rw [hb_at (by omega)]
  cases e : (hm ds y W).testBit c.toInt.toNat with
  | true =>
    rw [e] at q
    exact Or.inl ⟨by rw [q]; rfl, rfl⟩
  | false =>
    rw [e] at q
    exact Or.inr ⟨by rw [q]; rfl, rfl⟩
/-- the pull of a number -/
def sq_Pk (ds : List Int32) (W N : Nat) (p r e : Int) : Prop := (∃ q : Nat, q < N ∧ r = (q : Int) ∧ hb ds W q = true ∧ (hn ds W q : Int) = p) ∨ (r = e ∧ ∀ q, q < N → hb ds W q = true → ¬ (hn ds W q : Int) = p)
/-- columns hang on a cord that is like them -/
theorem ck.al {A : Nat → Nat → Prop} (hA : ∀ a, A a a) {f o : Nat → Int} {n : Nat} : ∀ {m : Nat}, ck A f o n m → ∀ j, j < n → A (f (o j).toNat).toNat j := by
  induction n with
  | zero => intro m _ j hj; omega
  | succ n ih =>
    intro m h j hj
    obtain ⟨p, r, h1, h2, h3, h4⟩ := h
    by_cases e : j < n
    · exact ih h1 j e
    · have e2 : j = n := by omega
      subst e2
      rw [h3, show ((r : Int)).toNat = r from Int.toNat_natCast r]
      rcases h4 with ⟨h4, h5, -⟩ | ⟨h4, -⟩
      · rw [h4, h5, Int.toNat_natCast]
        exact hA _
      · exact h2.2.2 h4
theorem pk_zero {ds : List Int32} {f : Nat → Int} {y : Nat} {c : Int32} {m : Nat} (hm20 : m ≤ 20) : pk ds f y c m = 0 ↔ ∀ k, k < m → ¬ sq_c ds (f k).toNat y = c := by
  induction m with
  | zero => exact ⟨fun _ k hk => by omega, fun _ => rfl⟩
  | succ m ih =>
    have ih := ih (by omega)
    by_cases e : sq_c ds (f m).toNat y = c
    · rw [pk_t e, Int32.or_eq_zero_iff]
      exact ⟨fun h => absurd h.2 (pm_sh0 m (by omega)), fun h => absurd e (h m (by omega))⟩
    · rw [pk_f e, ih]
      constructor
      · intro h k hk
        by_cases q : k < m
        · exact h k q
        · rw [show k = m by omega]
          exact e
      · exact fun h k hk => h k (by omega)
theorem hb_pk {gi : Nat → Int32} {ga : Nat → List Int32} {fs os : List Int32} {m y : Nat} {c : Int32} (hcl : sq_cl (ga 15)) (h : sq_ck gi ga fs os m) (hm20 : m ≤ 20) (hy : y < (gi 1).toInt.toNat) (c0 : 0 ≤ c.toInt) (c1 : c.toInt < 4) : pk (ga 15) (sq_lk fs) y c m = 0 ↔ hb (ga 15) (gi 0).toInt.toNat (4 * y + c.toInt.toNat) = false := by
  rw [pk_zero hm20, hb_at (by omega)]
  have hbd := ck.bd h
  constructor
  · intro g
    cases e : (hm (ga 15) y (gi 0).toInt.toNat).testBit c.toInt.toNat with
    | false => rfl
    | true =>
      obtain ⟨j, j1, j2⟩ := (hm_bit _).mp e
      have q := ck.al (A := sq_al (ga 15) (gi 1).toInt.toNat) (fun a _ _ => rfl) h j j1 y hy
      have q2 := hbd.2.2 j j1
      have q3 := hcl.c j y
      exact absurd (q.trans (i_eq.mpr (by omega))) (g (sq_lk os j).toNat (by omega))
  · intro g k hk e
    have q := hbd.2.1 k hk
    have q2 : (hm (ga 15) y (gi 0).toInt.toNat).testBit c.toInt.toNat = true := (hm_bit _).mpr ⟨(sq_lk fs k).toNat, by omega, by rw [e]⟩
    rw [g] at q2
    exact absurd q2 (by decide)
def sq_Ppulls (gi : Nat → Int32) (ga : Nat → List Int32) (v : Int32) : Prop := v.toInt = (hn (ga 15) (gi 0).toInt.toNat (4 * (gi 1).toInt.toNat) : Int)
def sq_PpullOf (gi : Nat → Int32) (ga : Nat → List Int32) (i k v : Int32) : Prop := ((i.toInt < 0 ∨ ∀ q, q < 4 * (gi 1).toInt.toNat → hb (ga 15) (gi 0).toInt.toNat q = true → ¬ (hn (ga 15) (gi 0).toInt.toNat q : Int) = i.toInt) ∧ v.toInt = -1) ∨ (0 ≤ i.toInt ∧ ∃ q : Nat, q < 4 * (gi 1).toInt.toNat ∧ hb (ga 15) (gi 0).toInt.toNat q = true ∧ (hn (ga 15) (gi 0).toInt.toNat q : Int) = i.toInt ∧ ((¬ (0 ≤ k.toInt ∧ k.toInt < 2) ∧ v.toInt = -2) ∨ (k.toInt = 0 ∧ v.toInt = (q : Int) / 4) ∨ (k.toInt = 1 ∧ v.toInt = (q : Int) % 4)))
theorem rel_pulls {gi : Nat → Int32} {ga : Nat → List Int32} {v u : Int32} (h : sq_Ppulls gi ga v) (g : sq_Ppulls gi ga u) : v = u := i_eq.mpr (h.trans g.symm)
theorem rel_pullOf {gi : Nat → Int32} {ga : Nat → List Int32} {i k v u : Int32} (h : sq_PpullOf gi ga i k v) (g : sq_PpullOf gi ga i k u) : v = u := by
  refine i_eq.mpr ?_
  rcases h with ⟨h0, h1⟩ | ⟨h0, q, h1, h2, h3, h4⟩
  · rcases g with ⟨g0, g1⟩ | ⟨g0, p, g1, g2, g3, g4⟩
    · omega
    · rcases h0 with h0 | h0
      · omega
      · exact absurd g3 (h0 p g1 g2)
  · rcases g with ⟨g0, g1⟩ | ⟨g0, p, g1, g2, g3, g4⟩
    · rcases g0 with g0 | g0
      · omega
      · exact absurd h3 (g0 q h1 h2)
    · have e := hn_inj h2 g2 (by omega)
      subst e
      omega

