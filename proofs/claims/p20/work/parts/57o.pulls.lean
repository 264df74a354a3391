/-- the colours of a pick, as bits -/
noncomputable def hm (ds : List Int32) (y : Nat) : Nat → Nat
  | 0 => 0
  | x + 1 => hm ds y x ||| 2 ^ (sq_c ds x y).toInt.toNat
theorem sq_cl.c {ds : List Int32} (h : sq_cl ds) (x y : Nat) : 0 ≤ (sq_c ds x y).toInt ∧ (sq_c ds x y).toInt ≤ 3 := h.at (20 * y + x)
noncomputable def hb (ds : List Int32) (W q : Nat) : Bool := (hm ds (q / 4) W).testBit (q % 4)
noncomputable def hn (ds : List Int32) (W : Nat) : Nat → Nat
  | 0 => 0
  | q + 1 => hn ds W q + (if hb ds W q = true then 1 else 0)
