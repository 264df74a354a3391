theorem pm_fr_sm : ∀ a, a < 8 → ((nI a &&& 31).toBitVec.smod 32).toNat = a := by decide +kernel
theorem pm_fr_bit : ∀ t, t < 128 → ∀ a, a < 8 → ((nI t >>> (nI a &&& 31)) &&& 1) = if t.testBit a then 1 else 0 := fun t _ a ha => by
  have e : (nI t >>> (nI a &&& 31)).toBitVec.getLsbD 0 = t.testBit a := by
    rw [Int32.toBitVec_shiftRight, BitVec.getLsbD_sshiftRight', pm_fr_sm a ha, if_pos (show a + 0 < 32 by omega), Nat.add_zero, show (nI t).toBitVec = BitVec.ofNat 32 t from rfl, BitVec.getLsbD_ofNat, decide_eq_true (show a < 32 by omega)]
    cases t.testBit a <;> rfl
  apply Int32.toBitVec_inj.mp
  rw [show ((nI t >>> (nI a &&& 31)) &&& 1).toBitVec = (nI t >>> (nI a &&& 31)).toBitVec &&& 1#32 from rfl, BitVec.and_one_eq_setWidth_ofBool_getLsbD, e]
  cases t.testBit a <;> rfl
theorem pm_fr_00 : ∀ m, m ≤ pm_fr 0 0 m := fun m => by
  induction m with
  | zero => exact Nat.zero_le _
  | succ m ih =>
    show m + 1 ≤ pm_fr 0 0 m + (if 0 ≤ m ∧ (0 : Nat).testBit m = false then 1 else 0)
    rw [if_pos ⟨Nat.zero_le _, Nat.zero_testBit m⟩]
    omega
theorem pm_fr_0 : ∀ m, m < 8 → m ≤ pm_fr 0 0 m := fun m _ => pm_fr_00 m

