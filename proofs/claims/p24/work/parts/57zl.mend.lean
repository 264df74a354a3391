section PmMi
variable {c : Nat → Int32} {W L n : Nat} {U B : Nat → Prop} {z : Prop} {v : Int}
theorem md_G.runs {F : Nat} (h1 : F < W) (h2 : fs_st c W F) (h3 : ∀ x, x < F → ¬ fs_st c W x) (n : Nat) : md_G c W L U B z n ↔ md_F c W L F W U B n := by
  constructor
  · intro h
    rcases h with ⟨G, g1, g2, g3, g4⟩ | ⟨h0, -⟩
    · have e : G = F := by
        rcases Nat.lt_trichotomy G F with q | q | q
        · exact absurd g2 (h3 G q)
        · exact q
        · exact absurd h2 (g3 F q)
      subst e
      exact g4
    · exact absurd h2 (h0 F h1)
  · intro h
    exact Or.inl ⟨F, h1, h2, h3, h⟩
theorem md_G.plain (h0 : ∀ x, x < W → ¬ fs_st c W x) (n : Nat) : md_G c W L U B z n ↔ md_H c W L U B z W n := by
  constructor
  · intro h
    rcases h with ⟨G, g1, g2, -⟩ | ⟨-, h⟩
    · exact absurd g2 (h0 G g1)
    · exact h
  · intro h
    exact Or.inr ⟨h0, h⟩
end PmMi
