noncomputable def sq_c (ds : List Int32) (x y : Nat) : Int32 := ds.getD (20 * y + x) 0
/-- the least that divides and repeats -/
def sq_LS (A : Nat) (P : Nat → Prop) (r : Nat) : Prop := 1 ≤ r ∧ r ≤ A ∧ A % r = 0 ∧ P r ∧ ∀ n, 1 ≤ n → n < r → ¬ (A % n = 0 ∧ P n)
theorem sq_LS.uniq {A r s : Nat} {P P' : Nat → Prop} (h1 : sq_LS A P r) (h2 : sq_LS A P' s) (hp : ∀ n, P n ↔ P' n) : r = s := by
  rcases Nat.lt_trichotomy r s with h | h | h
  · exact absurd ⟨h1.2.2.1, (hp r).mp h1.2.2.2.1⟩ (h2.2.2.2.2 r h1.1 h)
  · exact h
  · exact absurd ⟨h2.2.2.1, (hp s).mpr h2.2.2.2.1⟩ (h1.2.2.2.2 s h2.1 h)
theorem sq_ofNat_inj {a b : Nat} (ha : a < 2 ^ 64) (hb : b < 2 ^ 64) (h : Int64.ofNat a = Int64.ofNat b) : a = b := by
  have h1 : BitVec.ofNat 64 a = BitVec.ofNat 64 b := congrArg Int64.toBitVec h
  have h2 := congrArg BitVec.toNat h1
  rw [BitVec.toNat_ofNat, BitVec.toNat_ofNat, Nat.mod_eq_of_lt ha, Nat.mod_eq_of_lt hb] at h2
  exact h2
theorem sq_c_of {ds : List Int32} (hcl : sq_cl ds) {a b : Nat} (h : (ds.getD a 0).toInt.toNat = (ds.getD b 0).toInt.toNat) : ds.getD a 0 = ds.getD b 0 := by
  have h1 := hcl.at a
  have h2 := hcl.at b
  exact i_eq.mpr (by omega)
/-- columns by their codes -/
theorem sq_cc_iff {ds : List Int32} (hcl : sq_cl ds) {H a b : Nat} (hH : H ≤ 20) : Int64.ofNat (sq_E (pm_colf ds a) H) = Int64.ofNat (sq_E (pm_colf ds b) H) ↔ ∀ y, y < H → sq_c ds a y = sq_c ds b y := by
  have ha : ∀ i, i < H → pm_colf ds a i < 4 := fun i _ => hcl.col a i
  have hb : ∀ i, i < H → pm_colf ds b i < 4 := fun i _ => hcl.col b i
  have hp : (4 : Nat) ^ H ≤ 2 ^ 40 := by
    rw [show (2 : Nat) ^ 40 = 4 ^ 20 from rfl]
    exact Nat.pow_le_pow_right (by decide) hH
  have la := sq_E_lt ha
  have lb := sq_E_lt hb
  constructor
  · intro h y hy
    have e := sq_E_inj ha hb (sq_ofNat_inj (by omega) (by omega) h) y hy
    exact sq_c_of hcl e
  · intro h
    rw [sq_E_ext (f := pm_colf ds a) (g := pm_colf ds b) (fun i hi => by
      have := h i hi
      unfold sq_c at this
      unfold pm_colf
      rw [this])]
/-- outside wide and high all is 0 -/
def pm_Oz (gi : Nat → Int32) (ga : Nat → List Int32) : Prop := ∀ x y, x < 20 → y < 20 → ((gi 0).toInt.toNat ≤ x ∨ (gi 1).toInt.toNat ≤ y) → (ga 15).getD (20 * y + x) 0 = 0

