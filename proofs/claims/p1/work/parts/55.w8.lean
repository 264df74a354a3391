set_option maxRecDepth 100000 in
theorem W_X12_isCloth_59 {sc : pm_S} {w : pm_W} {gi : Nat → Int32} {ga : Nat → List Int32} (x : Int32) (y : Int32) (c59_4 : Int32) (c59_5 : Int32) (c59_6 : Int32) (c59_14 : Int32) (c59_35 : Int32) (c59_39 : Int32) (c59_40 : Int32) (c59_42 : Int32) (p0 : 0 ≤ c59_4.toInt) (p1 : c59_4.toInt ≤ 1) (p2 : 0 ≤ c59_5.toInt) (p3 : c59_5.toInt ≤ 20) (p4 : 0 ≤ c59_6.toInt) (p5 : c59_6.toInt ≤ 20) (p6 : 0 ≤ c59_35.toInt) (p7 : c59_35.toInt ≤ 20) (p8 : 0 ≤ c59_42.toInt) (p9 : c59_42.toInt ≤ 12) (hc59 : w[59]? = some (.inr (12, [.int (gi 0), .int (gi 1), .ref 60, .int (gi 2), .int c59_4, .int c59_5, .int c59_6, .ref 61, .ref 62, .ref 63, .int (gi 5), .int (gi 3), .int (gi 4), .int (gi 6), .int c59_14, .int (gi 7), .ref 64, .ref 65, .ref 66, .ref 67, .int (gi 8), .ref 68, .ref 69, .ref 70, .ref 71, .ref 72, .ref 73, .ref 74, .ref 75, .ref 76, .ref 77, .ref 78, .ref 79, .ref 80, .ref 81, .int c59_35, .ref 82, .ref 83, .ref 84, .int c59_39, .int c59_40, .ref 85, .int c59_42, .ref 86, .ref 87]))) (hR : pm_Rg gi ga) (hI : pm_IM gi ga w) : pm_Mt sc 1 154 3 [.ref 59, .int x, .int y] w (fun rv w' => pm_wI (fun v => ((v.toInt = 1 ∧ 0 ≤ x.toInt ∧ x.toInt < c59_5.toInt ∧ 0 ≤ y.toInt ∧ y.toInt < c59_6.toInt) ∨ (v.toInt = 0 ∧ (x.toInt < 0 ∨ y.toInt < 0 ∨ c59_5.toInt ≤ x.toInt ∨ c59_6.toInt ≤ y.toInt)))) rv ∧ w = w') := by
  intro d hd
  obtain ⟨g0a, g0b⟩ := hR.n0
  obtain ⟨g1a, g1b⟩ := hR.n1
  obtain ⟨g2a, g2b⟩ := hR.n2
  obtain ⟨g3a, g3b⟩ := hR.n3
  obtain ⟨g4a, g4b⟩ := hR.n4
  obtain ⟨g5a, g5b⟩ := hR.n5
  obtain ⟨g6a, g6b⟩ := hR.n6
  obtain ⟨g7a, g7b⟩ := hR.n7
  obtain ⟨g8a, g8b⟩ := hR.n8
  have k0 : (0 : Int32).toInt = 0 := by decide
  have k1 : (1 : Int32).toInt = 1 := by decide
  show pm_V sc d 154 0 [.ref 59, .int x, .int y] [] w _
  refine v_iload_n rfl rfl ?_
  refine v_iconst (v := 0) rfl (by decide) ?_
  refine v_aload_n rfl rfl ?_
  refine v_get rfl hc59 rfl ?_
  refine v_iconst (v := 1) rfl (by decide) ?_
  refine r_isub rfl (by omega) (by omega) (fun z1 z1e => ?_)
  refine v_callS rfl (W_X12_in x (0 : Int32) z1 hR hI) rfl rfl rfl rfl rfl (by omega) (fun rv w2 hq3 => ?_)
  obtain ⟨⟨z4, rfl, z4p0⟩, rfl⟩ := hq3
  refine r_if_eq rfl (fun t5 => ?_) (fun t5 => ?_)
  · refine v_iconst (v := 0) rfl (by decide) ?_
    exact r_zret rfl (by omega) ⟨⟨_, rfl, (by omega)⟩, rfl⟩
  · refine v_iload_n rfl rfl ?_
    refine v_iconst (v := 0) rfl (by decide) ?_
    refine v_aload_n rfl rfl ?_
    refine v_get rfl hc59 rfl ?_
    refine v_iconst (v := 1) rfl (by decide) ?_
    refine r_isub rfl (by omega) (by omega) (fun z6 z6e => ?_)
    refine v_callS rfl (W_X12_in y (0 : Int32) z6 hR hI) rfl rfl rfl rfl rfl (by omega) (fun rv w7 hq8 => ?_)
    obtain ⟨⟨z9, rfl, z9p0⟩, rfl⟩ := hq8
    refine r_if_eq rfl (fun t10 => ?_) (fun t10 => ?_)
    · refine v_iconst (v := 0) rfl (by decide) ?_
      exact r_zret rfl (by omega) ⟨⟨_, rfl, (by omega)⟩, rfl⟩
    · refine v_iconst (v := 1) rfl (by decide) ?_
      refine v_goto rfl ?_
      exact r_zret rfl (by omega) ⟨⟨_, rfl, (by omega)⟩, rfl⟩
