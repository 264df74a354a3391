theorem sq_LS.imp {A r : Nat} {P P' : Nat → Prop} (h : sq_LS A P r) (hp : ∀ n, P n ↔ P' n) : sq_LS A P' r := ⟨h.1, h.2.1, h.2.2.1, (hp r).mp h.2.2.2.1, fun n h1 h2 h3 => h.2.2.2.2 n h1 h2 ⟨h3.1, (hp n).mpr h3.2⟩⟩
/-- the least that mirrors; -9: none -/
def sq_LM (A : Nat) (P : Nat → Prop) (v : Int) : Prop := (v = -9 ∧ ∀ m, m < A → ¬ P m) ∨ (∃ r : Nat, v = (r : Int) ∧ r < A ∧ P r ∧ ∀ m, m < r → ¬ P m)
theorem sq_LM.uniq {A : Nat} {P : Nat → Prop} {v u : Int} (h : sq_LM A P v) (g : sq_LM A P u) : v = u := by
  rcases h with ⟨h0, h1⟩ | ⟨r, h0, h1, h2, h3⟩
  · rcases g with ⟨g0, g1⟩ | ⟨s, g0, g1, g2, g3⟩
    · omega
    · exact absurd g2 (h1 s g1)
  · rcases g with ⟨g0, g1⟩ | ⟨s, g0, g1, g2, g3⟩
    · exact absurd h2 (g1 r h1)
    · rcases Nat.lt_trichotomy r s with q | q | q
      · exact absurd h2 (g3 r q)
      · omega
      · exact absurd g2 (h3 s q)
theorem sq_LM.imp {A : Nat} {P P' : Nat → Prop} {v : Int} (h : sq_LM A P v) (hp : ∀ n, P n ↔ P' n) : sq_LM A P' v := by
  rcases h with ⟨h0, h1⟩ | ⟨r, h0, h1, h2, h3⟩
  · exact Or.inl ⟨h0, fun m hm q => h1 m hm ((hp m).mpr q)⟩
  · exact Or.inr ⟨r, h0, h1, (hp r).mp h2, fun m hm q => h3 m hm ((hp m).mpr q)⟩
