/-- in how many places two rows differ, m places from x on -/
noncomputable def cf (a b : List Int32) : Nat → Nat → Nat
  | _, 0 => 0
  | x, m + 1 => (if a.getD x 0 = b.getD x 0 then 0 else 1) + cf a b (x + 1) m
/-- by rows -/
noncomputable def cd (a b : List Int32) (A : Nat) : Nat → Nat → Nat
  | _, 0 => 0
  | y, m + 1 => cf a b (20 * y) A + cd a b A (y + 1) m
section PmBo
variable {gi : Nat → Int32} {ga : Nat → List Int32} {b k : Int32}
end PmBo
