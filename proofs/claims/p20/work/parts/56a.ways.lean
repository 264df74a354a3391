theorem nI_or (a b : Nat) : nI a ||| nI b = nI (a ||| b) := by
  apply Int32.toBitVec_inj.mp
  show BitVec.ofNat 32 a ||| BitVec.ofNat 32 b = BitVec.ofNat 32 (a ||| b)
  exact BitVec.ofNat_or.symm
theorem pm_sh1 : ∀ c, c < 32 → ((1 : Int32) <<< (nI c &&& 31)) = nI (2 ^ c) := by decide +kernel

