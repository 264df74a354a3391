noncomputable def sq_E (f : Nat → Nat) : Nat → Nat
  | 0 => 0
  | n + 1 => f 0 + 4 * sq_E (fun i => f (i + 1)) n
noncomputable def pm_rowf (ds : List Int32) (y : Nat) : Nat → Nat := fun x => (ds.getD (20 * y + x) 0).toInt.toNat
noncomputable def pm_enc (ds : List Int32) : List Int64 := (List.range 20).map (fun y => Int64.ofNat (sq_E (pm_rowf ds y) 20))
theorem pm_enc_len {ds : List Int32} : (pm_enc ds).length = 20 := by unfold pm_enc; rw [List.length_map, List.length_range]
set_option maxRecDepth 100000 in
theorem pm_enc0 : pm_enc (List.replicate 400 0) = List.replicate 20 0 := by decide +kernel

