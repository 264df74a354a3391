set_option maxRecDepth 100000 in
theorem W_X11_around_y {sc : pm_S} {w : pm_W} {gi : Nat → Int32} {ga : Nat → List Int32} (i : Int32) (n : Int32) (p0 : n.toInt ≤ 20) (p1 : 0 ≤ n.toInt) (p2 : i.toInt ≤ 40) (p3 : (-40) ≤ i.toInt) (p4 : -n.toInt ≤ i.toInt) (p5 : i.toInt < 2 * n.toInt) (hR : pm_Rg gi ga) (hI : pm_IX gi ga w) : pm_Mt sc 0 115 2 [.int i, .int n] w (fun rv w' => pm_wI (fun v => 0 ≤ v.toInt ∧ v.toInt < n.toInt ∧ (i.toInt < 0 → v.toInt = i.toInt + n.toInt) ∧ (0 ≤ i.toInt → i.toInt < n.toInt → v.toInt = i.toInt) ∧ (n.toInt ≤ i.toInt → v.toInt = i.toInt - n.toInt)) rv ∧ w = w') := by
  intro d hd
  obtain ⟨g0a, g0b⟩ := hR.n0
  obtain ⟨g1a, g1b⟩ := hR.n1
  obtain ⟨g2a, g2b⟩ := hR.n2
  obtain ⟨g3a, g3b⟩ := hR.n3
  obtain ⟨g4a, g4b⟩ := hR.n4
  obtain ⟨g5a, g5b⟩ := hR.n5
  obtain ⟨g6a, g6b⟩ := hR.n6
  obtain ⟨g7a, g7b⟩ := hR.n7
  obtain ⟨g8a, g8b⟩ := hR.n8
  show pm_V sc d 115 0 [.int i, .int n] [] w _
  refine v_iload_n rfl rfl ?_
  refine r_if_ge rfl (fun t1 => ?_) (fun t1 => ?_)
  · refine v_iload_n rfl rfl ?_
    refine v_iload_n rfl rfl ?_
    refine r_icmp_ge rfl (fun t2 => ?_) (fun t2 => ?_)
    · refine v_iload_n rfl rfl ?_
      refine v_iload_n rfl rfl ?_
      refine r_isub rfl (by omega) (by omega) (fun z3 z3e => ?_)
      exact v_iret rfl ⟨⟨_, rfl, (by omega), (by omega), (by omega), (by omega), (by omega)⟩, rfl⟩
    · refine v_iload_n rfl rfl ?_
      refine v_goto rfl ?_
      exact v_iret rfl ⟨⟨_, rfl, (by omega), (by omega), (by omega), (by omega), (by omega)⟩, rfl⟩
  · refine v_iload_n rfl rfl ?_
    refine v_iload_n rfl rfl ?_
    refine r_iadd rfl (by omega) (by omega) (fun z4 z4e => ?_)
    exact v_iret rfl ⟨⟨_, rfl, (by omega), (by omega), (by omega), (by omega), (by omega)⟩, rfl⟩
