def pm_J (w : pm_W) : Prop := ∃ (gi : Nat → Int32) (ga : Nat → List Int32), pm_IX gi ga w ∧ pm_IM gi ga w ∧ pm_Rg gi ga ∧ pm_Bg ga ∧ pm_Cr ga ∧ pm_K gi ga
theorem pm_Cr0 : pm_Cr pm_ga0 := by
  intro b hb h
  match b, hb, h with
  | 0, _, h => exact absurd h (by decide)
  | 1, _, h => exact absurd h (by decide)
  | 2, _, h => exact absurd h (by decide)
  | 3, _, h => exact absurd h (by decide)
theorem pm_Bg0 : pm_Bg pm_ga0 := by
  intro j hj h
  match j, hj, h with
  | 0, _, h => exact absurd h (by decide)
  | 1, _, h => exact absurd h (by decide)
  | 2, _, h => exact absurd h (by decide)
  | 3, _, h => exact absurd h (by decide)
theorem pm_J0 : pm_J pm_w2 := ⟨pm_gi0, pm_ga0, pm_IX0, pm_IM0, pm_Rg0, pm_Bg0, pm_Cr0, pm_K0⟩
theorem pm_J.c0 {w : pm_W} (h : pm_J w) : ∃ fs, w[0]? = some (.inr (11, fs)) := by
  obtain ⟨gi, ga, hI, -⟩ := h
  obtain ⟨v, -, e⟩ := hI.2 0 (by decide)
  exact ⟨_, e⟩
theorem pm_IM.c59 {gi : Nat → Int32} {ga : Nat → List Int32} {w : pm_W} (h : pm_IM gi ga w) : ∃ fs, w[59]? = some (.inr (12, fs)) := by
  obtain ⟨_, _, _, _, _, _, _, _, -, -, -, -, -, e⟩ := h.2.1 59 (by decide) (by decide)
  exact ⟨_, e⟩
theorem m_up {sc : pm_S} {k k' mj mL : Nat} {as : List Value} {w : pm_W} {Q : Option Value → pm_W → Prop} (hk : k ≤ k') (h : pm_Mt sc k mj mL as w Q) : pm_Mt sc k' mj mL as w Q := fun d hd => h d (Nat.le_trans hk hd)
def pm_QS (sc : pm_S) (mm mL : Nat) (as : List Value) (rv : Option Value) (w1 : pm_W) : Prop := (∃ fs, w1[59]? = some (.inr (12, fs))) ∧ ∃ v, rv = some (.int v) ∧ pm_Mt sc 38 mm mL as w1 (fun r2 w2 => r2 = some (.int v) ∧ pm_J w2)
def pm_QW (sc : pm_S) (mm mL : Nat) (as : List Value) (rv : Option Value) (w1 : pm_W) : Prop := (∃ fs, w1[59]? = some (.inr (12, fs))) ∧ ∃ v, rv = some (.int v) ∧ pm_Mt sc 38 mm mL as w1 (fun r2 w2 => (∃ v2, r2 = some (.int v2)) ∧ pm_J w2)
theorem pm_QS.w {sc : pm_S} {mm mL : Nat} {as : List Value} {rv : Option Value} {w1 : pm_W} (h : pm_QS sc mm mL as rv w1) : pm_QW sc mm mL as rv w1 := by
  obtain ⟨h1, v, e, m⟩ := h
  exact ⟨h1, v, e, m_weak m (fun _ _ g => ⟨⟨v, g.1⟩, g.2⟩)⟩
theorem q_paper {sc : pm_S} {w : pm_W} (a1 a2 : Int32) (h : pm_J w) : pm_Mt sc 38 71 3 [.ref 0, .int a1, .int a2] w (pm_QS sc 121 4 [.ref 59, .int a1, .int a2]) := by
  obtain ⟨gi, ga, hI, hM, hR, hB, hC, hK⟩ := h
  refine m_up (by decide) (m_weak (c_X_paper a1 a2 hR hI) (fun rv w1 hq => ?_))
  obtain ⟨e, g1, g2⟩ := hq
  have hM1 := hM.hi g2
  refine ⟨hM1.c59, _, e, m_up (by decide) (m_weak (c_M_paper a1 a2 hR hM1) (fun r2 w2 hq2 => ?_))⟩
  obtain ⟨e2, f1, f2⟩ := hq2
  refine ⟨e2, _, _, g1.lo f2, f1, rg_paper hR a1 a2, ?_, ?_, k_paper hK a1 a2⟩
  · unfold sp_paper
    repeat' split
    all_goals exact hB
  · unfold sp_paper
    repeat' split
    all_goals first | exact hC | exact hC.of (fun _ _ e => e) rfl (fun b hb => by dsimp only; repeat rw [pm_uA_ne (by omega)])
theorem q_square {sc : pm_S} {w : pm_W} (a1 a2 a3 : Int32) (h : pm_J w) : pm_Mt sc 38 72 4 [.ref 0, .int a1, .int a2, .int a3] w (pm_QS sc 122 5 [.ref 59, .int a1, .int a2, .int a3]) := by
  obtain ⟨gi, ga, hI, hM, hR, hB, hC, hK⟩ := h
  refine m_up (by decide) (m_weak (c_X_square a1 a2 a3 hR hI) (fun rv w1 hq => ?_))
  obtain ⟨e, g1, g2⟩ := hq
  have hM1 := hM.hi g2
  refine ⟨hM1.c59, _, e, m_up (by decide) (m_weak (c_M_square a1 a2 a3 hR hM1) (fun r2 w2 hq2 => ?_))⟩
  obtain ⟨e2, f1, f2⟩ := hq2
  refine ⟨e2, _, _, g1.lo f2, f1, ?_, ?_, ?_, k_square hR (hI.2 2 (by decide)).1 hK a1 a2 a3⟩
  · unfold sp_square
    repeat' split
    all_goals exact hR
  · unfold sp_square
    repeat' split
    all_goals exact hB
  · unfold sp_square
    repeat' split
    all_goals first | exact hC | exact hC.of (fun _ _ e => e) rfl (fun b hb => by dsimp only; repeat rw [pm_uA_ne (by omega)])
theorem q_fill {sc : pm_S} {w : pm_W} (a1 a2 a3 a4 : Int32) (h : pm_J w) : pm_Mt sc 38 73 6 [.ref 0, .int a1, .int a2, .int a3, .int a4] w (pm_QS sc 123 6 [.ref 59, .int a1, .int a2, .int a3, .int a4]) := by
  obtain ⟨gi, ga, hI, hM, hR, hB, hC, hK⟩ := h
  refine m_up (by decide) (m_weak (c_X_fill a1 a2 a3 a4 hR hI) (fun rv w1 hq => ?_))
  obtain ⟨e, g1, g2⟩ := hq
  have hM1 := hM.hi g2
  refine ⟨hM1.c59, _, e, m_up (by decide) (m_weak (c_M_fill a1 a2 a3 a4 hR hM1) (fun r2 w2 hq2 => ?_))⟩
  obtain ⟨e2, f1, f2⟩ := hq2
  refine ⟨e2, _, _, g1.lo f2, f1, ?_, ?_, ?_, k_fill hR (hI.2 2 (by decide)).1 hK a1 a2 a3 a4⟩
  · unfold sp_fill
    repeat' split
    all_goals exact hR
  · unfold sp_fill
    repeat' split
    all_goals exact hB
  · unfold sp_fill
    repeat' split
    all_goals first | exact hC | exact hC.of (fun _ _ e => e) rfl (fun b hb => by dsimp only; repeat rw [pm_uA_ne (by omega)])
theorem q_at {sc : pm_S} {w : pm_W} (a1 a2 : Int32) (h : pm_J w) : pm_Mt sc 38 74 3 [.ref 0, .int a1, .int a2] w (pm_QS sc 124 3 [.ref 59, .int a1, .int a2]) := by
  obtain ⟨gi, ga, hI, hM, hR, hB, hC, hK⟩ := h
  refine m_up (by decide) (m_weak (c_X_at a1 a2 hR hI) (fun rv w1 hq => ?_))
  obtain ⟨e, g1, g2⟩ := hq
  have hM1 := hM.hi g2
  refine ⟨hM1.c59, _, e, m_up (by decide) (m_weak (c_M_at a1 a2 hR hM1) (fun r2 w2 hq2 => ?_))⟩
  obtain ⟨e2, f1, f2⟩ := hq2
  refine ⟨e2, _, _, g1.lo f2, f1, ?_, ?_, ?_, ?_⟩
  · unfold sp_at
    repeat' split
    all_goals exact hR
  · unfold sp_at
    repeat' split
    all_goals exact hB
  · unfold sp_at
    repeat' split
    all_goals first | exact hC | exact hC.of (fun _ _ e => e) rfl (fun b hb => by dsimp only; repeat rw [pm_uA_ne (by omega)])
  · unfold sp_at
    repeat' split
    all_goals first | exact hK | exact hK.of rfl rfl rfl rfl rfl rfl rfl rfl rfl rfl rfl
theorem q_span {sc : pm_S} {w : pm_W} (a1 : Int32) (h : pm_J w) : pm_Mt sc 38 75 2 [.ref 0, .int a1] w (pm_QW sc 126 4 [.ref 59, .int a1]) := by
  obtain ⟨gi, ga, hI, hM, hR, hB, hC, hK⟩ := h
  refine m_up (by decide) (m_weak (W_X11_span_0 a1 hR hI pm_hi.rf) (fun rv w1 hq => ?_))
  obtain ⟨⟨v, e, -⟩, g1, g2⟩ := hq
  have hM1 := hM.hi g2
  refine ⟨hM1.c59, v, e, m_up (by decide) (m_weak (W_X12_span_59 a1 hR hM1 pm_lo.rf) (fun r2 w2 hq2 => ?_))⟩
  obtain ⟨⟨v2, e2, -⟩, f1, f2⟩ := hq2
  exact ⟨⟨v2, e2⟩, gi, ga, g1.lo f2, f1, hR, hB, hC, hK⟩
theorem q_mirror {sc : pm_S} {w : pm_W} (a1 : Int32) (h : pm_J w) : pm_Mt sc 38 76 2 [.ref 0, .int a1] w (pm_QW sc 128 3 [.ref 59, .int a1]) := by
  obtain ⟨gi, ga, hI, hM, hR, hB, hC, hK⟩ := h
  refine m_up (by decide) (m_weak (W_X11_mirror_0 a1 hR hI pm_hi.rf) (fun rv w1 hq => ?_))
  obtain ⟨⟨v, e, -⟩, g1, g2⟩ := hq
  have hM1 := hM.hi g2
  refine ⟨hM1.c59, v, e, m_up (by decide) (m_weak (W_X12_mirror_59 a1 hR hM1 pm_lo.rf) (fun r2 w2 hq2 => ?_))⟩
  obtain ⟨⟨v2, e2, -⟩, f1, f2⟩ := hq2
  exact ⟨⟨v2, e2⟩, gi, ga, g1.lo f2, f1, hR, hB, hC, hK⟩
theorem q_cords {sc : pm_S} {w : pm_W} (h : pm_J w) : pm_Mt sc 38 77 1 [.ref 0] w (pm_QW sc 131 1 [.ref 59]) := by
  obtain ⟨gi, ga, hI, hM, hR, hB, hC, hK⟩ := h
  refine m_up (by decide) (m_weak (W_X11_cords_0  hR hI pm_hi.rf) (fun rv w1 hq => ?_))
  obtain ⟨⟨v, e, -⟩, g1, g2⟩ := hq
  have hM1 := hM.hi g2
  refine ⟨hM1.c59, v, e, m_up (by decide) (m_weak (W_X12_cords_59  hR hM1 pm_lo.rf) (fun r2 w2 hq2 => ?_))⟩
  obtain ⟨⟨v2, e2, -⟩, f1, f2⟩ := hq2
  exact ⟨⟨v2, e2⟩, gi, ga, g1.lo f2, f1, hR, hB, hC, hK⟩
theorem q_cord {sc : pm_S} {w : pm_W} (a1 : Int32) (h : pm_J w) : pm_Mt sc 38 78 2 [.ref 0, .int a1] w (pm_QW sc 132 2 [.ref 59, .int a1]) := by
  obtain ⟨gi, ga, hI, hM, hR, hB, hC, hK⟩ := h
  refine m_up (by decide) (m_weak (W_X11_cord_0 a1 hR hI pm_hi.rf) (fun rv w1 hq => ?_))
  obtain ⟨⟨v, e, -⟩, g1, g2⟩ := hq
  have hM1 := hM.hi g2
  refine ⟨hM1.c59, v, e, m_up (by decide) (m_weak (W_X12_cord_59 a1 hR hM1 pm_lo.rf) (fun r2 w2 hq2 => ?_))⟩
  obtain ⟨⟨v2, e2, -⟩, f1, f2⟩ := hq2
  exact ⟨⟨v2, e2⟩, gi, ga, g1.lo f2, f1, hR, hB, hC, hK⟩
theorem q_pull {sc : pm_S} {w : pm_W} (a1 a2 : Int32) (h : pm_J w) : pm_Mt sc 38 79 3 [.ref 0, .int a1, .int a2] w (pm_QW sc 134 3 [.ref 59, .int a1, .int a2]) := by
  obtain ⟨gi, ga, hI, hM, hR, hB, hC, hK⟩ := h
  refine m_up (by decide) (m_weak (W_X11_pull_0 a1 a2 hR hI pm_hi.rf) (fun rv w1 hq => ?_))
  obtain ⟨⟨v, e, -⟩, g1, g2⟩ := hq
  have hM1 := hM.hi g2
  refine ⟨hM1.c59, v, e, m_up (by decide) (m_weak (W_X12_pull_59 a1 a2 hR hM1 pm_lo.rf) (fun r2 w2 hq2 => ?_))⟩
  obtain ⟨⟨v2, e2, -⟩, f1, f2⟩ := hq2
  exact ⟨⟨v2, e2⟩, gi, ga, g1.lo f2, f1, hR, hB, hC, hK⟩
theorem q_pulls {sc : pm_S} {w : pm_W} (h : pm_J w) : pm_Mt sc 38 80 3 [.ref 0] w (pm_QW sc 136 1 [.ref 59]) := by
  obtain ⟨gi, ga, hI, hM, hR, hB, hC, hK⟩ := h
  refine m_up (by decide) (m_weak (W_X11_pulls_0  hR hI pm_hi.rf) (fun rv w1 hq => ?_))
  obtain ⟨⟨v, e, -⟩, g1, g2⟩ := hq
  have hM1 := hM.hi g2
  refine ⟨hM1.c59, v, e, m_up (by decide) (m_weak (W_X12_pulls_59  hR hM1 pm_lo.rf) (fun r2 w2 hq2 => ?_))⟩
  obtain ⟨⟨v2, e2, -⟩, f1, f2⟩ := hq2
  exact ⟨⟨v2, e2⟩, gi, ga, g1.lo f2, f1, hR, hB, hC, hK⟩
theorem q_pullOf {sc : pm_S} {w : pm_W} (a1 a2 : Int32) (h : pm_J w) : pm_Mt sc 38 81 4 [.ref 0, .int a1, .int a2] w (pm_QW sc 137 4 [.ref 59, .int a1, .int a2]) := by
  obtain ⟨gi, ga, hI, hM, hR, hB, hC, hK⟩ := h
  refine m_up (by decide) (m_weak (W_X11_pullOf_0 a1 a2 hR hI pm_hi.rf) (fun rv w1 hq => ?_))
  obtain ⟨⟨v, e, -⟩, g1, g2⟩ := hq
  have hM1 := hM.hi g2
  refine ⟨hM1.c59, v, e, m_up (by decide) (m_weak (W_X12_pullOf_59 a1 a2 hR hM1 pm_lo.rf) (fun r2 w2 hq2 => ?_))⟩
  obtain ⟨⟨v2, e2, -⟩, f1, f2⟩ := hq2
  exact ⟨⟨v2, e2⟩, gi, ga, g1.lo f2, f1, hR, hB, hC, hK⟩
theorem q_limit {sc : pm_S} {w : pm_W} (a1 : Int32) (h : pm_J w) : pm_Mt sc 38 82 3 [.ref 0, .int a1] w (pm_QS sc 138 3 [.ref 59, .int a1]) := by
  obtain ⟨gi, ga, hI, hM, hR, hB, hC, hK⟩ := h
  refine m_up (by decide) (m_weak (c_X_limit a1 hR hI) (fun rv w1 hq => ?_))
  obtain ⟨e, g1, g2⟩ := hq
  have hM1 := hM.hi g2
  refine ⟨hM1.c59, _, e, m_up (by decide) (m_weak (c_M_limit a1 hR hM1) (fun r2 w2 hq2 => ?_))⟩
  obtain ⟨e2, f1, f2⟩ := hq2
  refine ⟨e2, _, _, g1.lo f2, f1, rg_limit hR a1, ?_, ?_, ?_⟩
  · unfold sp_limit
    repeat' split
    all_goals exact hB
  · unfold sp_limit
    repeat' split
    all_goals first | exact hC | exact hC.of (fun _ _ e => e) rfl (fun b hb => by dsimp only; repeat rw [pm_uA_ne (by omega)])
  · unfold sp_limit
    repeat' split
    all_goals first | exact hK | exact hK.of rfl rfl rfl rfl rfl rfl rfl rfl rfl rfl rfl
theorem q_floats {sc : pm_S} {w : pm_W} (a1 a2 : Int32) (h : pm_J w) : pm_Mt sc 38 83 3 [.ref 0, .int a1, .int a2] w (pm_QW sc 142 8 [.ref 59, .int a1, .int a2]) := by
  obtain ⟨gi, ga, hI, hM, hR, hB, hC, hK⟩ := h
  refine m_up (by decide) (m_weak (W_X11_floats_0 a1 a2 hR hI pm_hi.rf) (fun rv w1 hq => ?_))
  obtain ⟨⟨v, e, -⟩, g1, g2⟩ := hq
  have hM1 := hM.hi g2
  refine ⟨hM1.c59, v, e, m_up (by decide) (m_weak (W_X12_floats_59 a1 a2 hR hM1 pm_lo.rf) (fun r2 w2 hq2 => ?_))⟩
  obtain ⟨⟨v2, e2, -⟩, f1, f2⟩ := hq2
  exact ⟨⟨v2, e2⟩, gi, ga, g1.lo f2, f1, hR, hB, hC, hK⟩
theorem q_mend {sc : pm_S} {w : pm_W} (a1 : Int32) (h : pm_J w) : pm_Mt sc 38 84 2 [.ref 0, .int a1] w (pm_QW sc 145 6 [.ref 59, .int a1]) := by
  obtain ⟨gi, ga, hI, hM, hR, hB, hC, hK⟩ := h
  refine m_up (by decide) (m_weak (W_X11_mend_0 a1 hR hI pm_hi.rf) (fun rv w1 hq => ?_))
  obtain ⟨⟨v, e, -⟩, g1, g2⟩ := hq
  have hM1 := hM.hi g2
  refine ⟨hM1.c59, v, e, m_up (by decide) (m_weak (W_X12_mend_59 a1 hR hM1 pm_lo.rf) (fun r2 w2 hq2 => ?_))⟩
  obtain ⟨⟨v2, e2, -⟩, f1, f2⟩ := hq2
  exact ⟨⟨v2, e2⟩, gi, ga, g1.lo f2, f1, hR, hB, hC, hK⟩
theorem q_fault {sc : pm_S} {w : pm_W} (a1 a2 a3 : Int32) (h : pm_J w) : pm_Mt sc 38 85 4 [.ref 0, .int a1, .int a2, .int a3] w (pm_QW sc 146 5 [.ref 59, .int a1, .int a2, .int a3]) := by
  obtain ⟨gi, ga, hI, hM, hR, hB, hC, hK⟩ := h
  refine m_up (by decide) (m_weak (W_X11_fault_0 a1 a2 a3 hR hI pm_hi.rf) (fun rv w1 hq => ?_))
  obtain ⟨⟨v, e, -⟩, g1, g2⟩ := hq
  have hM1 := hM.hi g2
  refine ⟨hM1.c59, v, e, m_up (by decide) (m_weak (W_X12_fault_59 a1 a2 a3 hR hM1 pm_lo.rf) (fun r2 w2 hq2 => ?_))⟩
  obtain ⟨⟨v2, e2, -⟩, f1, f2⟩ := hq2
  exact ⟨⟨v2, e2⟩, gi, ga, g1.lo f2, f1, hR, hB, hC, hK⟩
theorem q_clear {sc : pm_S} {w : pm_W} (h : pm_J w) : pm_Mt sc 38 86 2 [.ref 0] w (pm_QW sc 148 3 [.ref 59]) := by
  obtain ⟨gi, ga, hI, hM, hR, hB, hC, hK⟩ := h
  refine m_up (by decide) (m_weak (W_X11_clear_0  hR hI pm_hi.rf) (fun rv w1 hq => ?_))
  obtain ⟨⟨v, e, -⟩, g1, g2⟩ := hq
  have hM1 := hM.hi g2
  refine ⟨hM1.c59, v, e, m_up (by decide) (m_weak (W_X12_clear_59  hR hM1 pm_lo.rf) (fun r2 w2 hq2 => ?_))⟩
  obtain ⟨⟨v2, e2, -⟩, f1, f2⟩ := hq2
  exact ⟨⟨v2, e2⟩, gi, ga, g1.lo f2, f1, hR, hB, hC, hK⟩
theorem q_weave {sc : pm_S} {w : pm_W} (h : pm_J w) : pm_Mt sc 38 87 5 [.ref 0] w (pm_QW sc 153 4 [.ref 59]) := by
  obtain ⟨gi, ga, hI, hM, hR, hB, hC, hK⟩ := h
  refine m_up (by decide) (m_weak (W_X11_weave_0  hR hI pm_hi.rf) (fun rv w1 hq => ?_))
  obtain ⟨⟨v, e, -⟩, g1, g2⟩ := hq
  have hM1 := hM.hi g2
  refine ⟨hM1.c59, v, e, m_up (by decide) (m_weak (W_X12_weave_59  hR hM1 pm_lo.rf) (fun r2 w2 hq2 => ?_))⟩
  obtain ⟨⟨v2, e2, -⟩, f1, f2⟩ := hq2
  exact ⟨⟨v2, e2⟩, gi, ga, g1.lo f2, f1, hR, hB, hC, hK⟩
theorem q_cloth {sc : pm_S} {w : pm_W} (a1 a2 : Int32) (h : pm_J w) : pm_Mt sc 38 88 3 [.ref 0, .int a1, .int a2] w (pm_QW sc 155 3 [.ref 59, .int a1, .int a2]) := by
  obtain ⟨gi, ga, hI, hM, hR, hB, hC, hK⟩ := h
  refine m_up (by decide) (m_weak (W_X11_cloth_0 a1 a2 hR hI pm_hi.rf) (fun rv w1 hq => ?_))
  obtain ⟨⟨v, e, -⟩, g1, g2⟩ := hq
  have hM1 := hM.hi g2
  refine ⟨hM1.c59, v, e, m_up (by decide) (m_weak (W_X12_cloth_59 a1 a2 hR hM1 pm_lo.rf) (fun r2 w2 hq2 => ?_))⟩
  obtain ⟨⟨v2, e2, -⟩, f1, f2⟩ := hq2
  exact ⟨⟨v2, e2⟩, gi, ga, g1.lo f2, f1, hR, hB, hC, hK⟩
theorem q_see {sc : pm_S} {w : pm_W} (a1 a2 a3 : Int32) (h : pm_J w) : pm_Mt sc 38 89 4 [.ref 0, .int a1, .int a2, .int a3] w (pm_QW sc 156 5 [.ref 59, .int a1, .int a2, .int a3]) := by
  obtain ⟨gi, ga, hI, hM, hR, hB, hC, hK⟩ := h
  refine m_up (by decide) (m_weak (W_X11_see_0 a1 a2 a3 hR hI pm_hi.rf) (fun rv w1 hq => ?_))
  obtain ⟨⟨v, e, -⟩, g1, g2⟩ := hq
  have hM1 := hM.hi g2
  refine ⟨hM1.c59, v, e, m_up (by decide) (m_weak (W_X12_see_59 a1 a2 a3 hR hM1 pm_lo.rf) (fun r2 w2 hq2 => ?_))⟩
  obtain ⟨⟨v2, e2, -⟩, f1, f2⟩ := hq2
  exact ⟨⟨v2, e2⟩, gi, ga, g1.lo f2, f1, hR, hB, hC, hK⟩
theorem q_explained {sc : pm_S} {w : pm_W} (a1 : Int32) (h : pm_J w) : pm_Mt sc 38 90 2 [.ref 0, .int a1] w (pm_QW sc 159 3 [.ref 59, .int a1]) := by
  obtain ⟨gi, ga, hI, hM, hR, hB, hC, hK⟩ := h
  refine m_up (by decide) (m_weak (W_X11_explained_0 a1 hR hI pm_hi.rf) (fun rv w1 hq => ?_))
  obtain ⟨⟨v, e, -⟩, g1, g2⟩ := hq
  have hM1 := hM.hi g2
  refine ⟨hM1.c59, v, e, m_up (by decide) (m_weak (W_X12_explained_59 a1 hR hM1 pm_lo.rf) (fun r2 w2 hq2 => ?_))⟩
  obtain ⟨⟨v2, e2, -⟩, f1, f2⟩ := hq2
  exact ⟨⟨v2, e2⟩, gi, ga, g1.lo f2, f1, hR, hB, hC, hK⟩
theorem q_set {sc : pm_S} {w : pm_W} (a1 a2 : Int32) (h : pm_J w) : pm_Mt sc 38 91 4 [.ref 0, .int a1, .int a2] w (pm_QS sc 160 4 [.ref 59, .int a1, .int a2]) := by
  obtain ⟨gi, ga, hI, hM, hR, hB, hC, hK⟩ := h
  refine m_up (by decide) (m_weak (c_X_set a1 a2 hR hI) (fun rv w1 hq => ?_))
  obtain ⟨e, g1, g2⟩ := hq
  have hM1 := hM.hi g2
  refine ⟨hM1.c59, _, e, m_up (by decide) (m_weak (c_M_set a1 a2 hR hM1) (fun r2 w2 hq2 => ?_))⟩
  obtain ⟨e2, f1, f2⟩ := hq2
  refine ⟨e2, _, _, g1.lo f2, f1, rg_set hR a1 a2, ?_, ?_, ?_⟩
  · unfold sp_set
    repeat' split
    all_goals exact hB
  · unfold sp_set
    repeat' split
    all_goals first | exact hC | exact hC.of (fun _ _ e => e) rfl (fun b hb => by dsimp only; repeat rw [pm_uA_ne (by omega)])
  · unfold sp_set
    repeat' split
    all_goals first | exact hK | exact hK.of rfl rfl rfl rfl rfl rfl rfl rfl rfl rfl rfl
theorem q_order {sc : pm_S} {w : pm_W} (a1 a2 a3 : Int32) (h : pm_J w) : pm_Mt sc 38 92 4 [.ref 0, .int a1, .int a2, .int a3] w (pm_QS sc 161 4 [.ref 59, .int a1, .int a2, .int a3]) := by
  obtain ⟨gi, ga, hI, hM, hR, hB, hC, hK⟩ := h
  refine m_up (by decide) (m_weak (c_X_order a1 a2 a3 hR hI) (fun rv w1 hq => ?_))
  obtain ⟨e, g1, g2⟩ := hq
  have hM1 := hM.hi g2
  refine ⟨hM1.c59, _, e, m_up (by decide) (m_weak (c_M_order a1 a2 a3 hR hM1) (fun r2 w2 hq2 => ?_))⟩
  obtain ⟨e2, f1, f2⟩ := hq2
  refine ⟨e2, _, _, g1.lo f2, f1, rg_order hR a1 a2 a3, ?_, ?_, ?_⟩
  · unfold sp_order
    repeat' split
    all_goals exact hB
  · unfold sp_order
    repeat' split
    all_goals first | exact hC | exact hC.of (fun _ _ e => e) rfl (fun b hb => by dsimp only; repeat rw [pm_uA_ne (by omega)])
  · unfold sp_order
    repeat' split
    all_goals first | exact hK | exact hK.of rfl rfl rfl rfl rfl rfl rfl rfl rfl rfl rfl
theorem q_best {sc : pm_S} {w : pm_W} (h : pm_J w) : pm_Mt sc 38 93 1 [.ref 0] w (pm_QW sc 166 1 [.ref 59]) := by
  obtain ⟨gi, ga, hI, hM, hR, hB, hC, hK⟩ := h
  refine m_up (by decide) (m_weak (W_X11_best_0  hR hI pm_hi.rf) (fun rv w1 hq => ?_))
  obtain ⟨⟨v, e, -⟩, g1, g2⟩ := hq
  have hM1 := hM.hi g2
  refine ⟨hM1.c59, v, e, m_up (by decide) (m_weak (W_X12_best_59  hR hM1 pm_lo.rf) (fun r2 w2 hq2 => ?_))⟩
  obtain ⟨⟨v2, e2, -⟩, f1, f2⟩ := hq2
  exact ⟨⟨v2, e2⟩, gi, ga, g1.lo f2, f1, hR, hB, hC, hK⟩
theorem q_bestAt {sc : pm_S} {w : pm_W} (a1 : Int32) (h : pm_J w) : pm_Mt sc 38 94 2 [.ref 0, .int a1] w (pm_QW sc 167 3 [.ref 59, .int a1]) := by
  obtain ⟨gi, ga, hI, hM, hR, hB, hC, hK⟩ := h
  refine m_up (by decide) (m_weak (W_X11_bestAt_0 a1 hR hI pm_hi.rf) (fun rv w1 hq => ?_))
  obtain ⟨⟨v, e, -⟩, g1, g2⟩ := hq
  have hM1 := hM.hi g2
  refine ⟨hM1.c59, v, e, m_up (by decide) (m_weak (W_X12_bestAt_59 a1 hR hM1 pm_lo.rf) (fun r2 w2 hq2 => ?_))⟩
  obtain ⟨⟨v2, e2, -⟩, f1, f2⟩ := hq2
  exact ⟨⟨v2, e2⟩, gi, ga, g1.lo f2, f1, hR, hB, hC, hK⟩
theorem q_work {sc : pm_S} {w : pm_W} (a1 : Int32) (h : pm_J w) : pm_Mt sc 38 95 2 [.ref 0, .int a1] w (pm_QS sc 169 4 [.ref 59, .int a1]) := by
  obtain ⟨gi, ga, hI, hM, hR, hB, hC, hK⟩ := h
  refine m_up (by decide) (m_weak (c_X_work a1 hR hI) (fun rv w1 hq => ?_))
  obtain ⟨e, g1, g2⟩ := hq
  have hM1 := hM.hi g2
  refine ⟨hM1.c59, _, e, m_up (by decide) (m_weak (c_M_work a1 hR hM1) (fun r2 w2 hq2 => ?_))⟩
  obtain ⟨e2, f1, f2⟩ := hq2
  refine ⟨e2, _, _, g1.lo f2, f1, rg_work hR a1, ?_, ?_, ?_⟩
  · unfold sp_work
    repeat' split
    all_goals exact hB
  · unfold sp_work
    repeat' split
    all_goals first | exact hC | exact hC.of (fun _ _ e => e) rfl (fun b hb => by dsimp only; repeat rw [pm_uA_ne (by omega)])
  · unfold sp_work
    repeat' split
    all_goals first | exact hK | exact hK.of rfl rfl rfl rfl rfl rfl rfl rfl rfl rfl rfl
theorem q_days {sc : pm_S} {w : pm_W} (a1 : Int32) (h : pm_J w) : pm_Mt sc 38 96 2 [.ref 0, .int a1] w (pm_QS sc 170 2 [.ref 59, .int a1]) := by
  obtain ⟨gi, ga, hI, hM, hR, hB, hC, hK⟩ := h
  refine m_up (by decide) (m_weak (c_X_days a1 hR hI) (fun rv w1 hq => ?_))
  obtain ⟨e, g1, g2⟩ := hq
  have hM1 := hM.hi g2
  refine ⟨hM1.c59, _, e, m_up (by decide) (m_weak (c_M_days a1 hR hM1) (fun r2 w2 hq2 => ?_))⟩
  obtain ⟨e2, f1, f2⟩ := hq2
  refine ⟨e2, _, _, g1.lo f2, f1, rg_days hR a1, ?_, ?_, ?_⟩
  · unfold sp_days
    repeat' split
    all_goals exact hB
  · unfold sp_days
    repeat' split
    all_goals first | exact hC | exact hC.of (fun _ _ e => e) rfl (fun b hb => by dsimp only; repeat rw [pm_uA_ne (by omega)])
  · unfold sp_days
    repeat' split
    all_goals first | exact hK | exact hK.of rfl rfl rfl rfl rfl rfl rfl rfl rfl rfl rfl
theorem q_law {sc : pm_S} {w : pm_W} (a1 a2 a3 : Int32) (h : pm_J w) : pm_Mt sc 38 97 4 [.ref 0, .int a1, .int a2, .int a3] w (pm_QS sc 171 4 [.ref 59, .int a1, .int a2, .int a3]) := by
  obtain ⟨gi, ga, hI, hM, hR, hB, hC, hK⟩ := h
  refine m_up (by decide) (m_weak (c_X_law a1 a2 a3 hR hI) (fun rv w1 hq => ?_))
  obtain ⟨e, g1, g2⟩ := hq
  have hM1 := hM.hi g2
  refine ⟨hM1.c59, _, e, m_up (by decide) (m_weak (c_M_law a1 a2 a3 hR hM1) (fun r2 w2 hq2 => ?_))⟩
  obtain ⟨e2, f1, f2⟩ := hq2
  refine ⟨e2, _, _, g1.lo f2, f1, rg_law hR a1 a2 a3, ?_, ?_, ?_⟩
  · unfold sp_law
    repeat' split
    all_goals exact hB
  · unfold sp_law
    repeat' split
    all_goals first | exact hC | exact hC.of (fun _ _ e => e) rfl (fun b hb => by dsimp only; repeat rw [pm_uA_ne (by omega)])
  · unfold sp_law
    repeat' split
    all_goals first | exact hK | exact hK.of rfl rfl rfl rfl rfl rfl rfl rfl rfl rfl rfl
theorem q_silk {sc : pm_S} {w : pm_W} (a1 a2 a3 a4 : Int32) (h : pm_J w) : pm_Mt sc 38 98 6 [.ref 0, .int a1, .int a2, .int a3, .int a4] w (pm_QS sc 172 7 [.ref 59, .int a1, .int a2, .int a3, .int a4]) := by
  obtain ⟨gi, ga, hI, hM, hR, hB, hC, hK⟩ := h
  refine m_up (by decide) (m_weak (c_X_silk a1 a2 a3 a4 hR hI) (fun rv w1 hq => ?_))
  obtain ⟨e, g1, g2⟩ := hq
  have hM1 := hM.hi g2
  refine ⟨hM1.c59, _, e, m_up (by decide) (m_weak (c_M_silk a1 a2 a3 a4 hR hM1) (fun r2 w2 hq2 => ?_))⟩
  obtain ⟨e2, f1, f2⟩ := hq2
  refine ⟨e2, _, _, g1.lo f2, f1, rg_silk hR a1 a2 a3 a4, ?_, ?_, ?_⟩
  · unfold sp_silk
    repeat' split
    all_goals exact hB
  · unfold sp_silk
    repeat' split
    all_goals first | exact hC | exact hC.of (fun _ _ e => e) rfl (fun b hb => by dsimp only; repeat rw [pm_uA_ne (by omega)])
  · unfold sp_silk
    repeat' split
    all_goals first | exact hK | exact hK.of rfl rfl rfl rfl rfl rfl rfl rfl rfl rfl rfl
theorem q_account {sc : pm_S} {w : pm_W} (a1 a2 : Int32) (h : pm_J w) : pm_Mt sc 38 99 3 [.ref 0, .int a1, .int a2] w (pm_QS sc 173 3 [.ref 59, .int a1, .int a2]) := by
  obtain ⟨gi, ga, hI, hM, hR, hB, hC, hK⟩ := h
  refine m_up (by decide) (m_weak (c_X_account a1 a2 hR hI) (fun rv w1 hq => ?_))
  obtain ⟨e, g1, g2⟩ := hq
  have hM1 := hM.hi g2
  refine ⟨hM1.c59, _, e, m_up (by decide) (m_weak (c_M_account a1 a2 hR hM1) (fun r2 w2 hq2 => ?_))⟩
  obtain ⟨e2, f1, f2⟩ := hq2
  have hg := ga_account (gi := gi) (ga := ga) a1 a2
  refine ⟨e2, _, _, g1.lo f2, f1, ?_, ?_, ?_, ?_⟩
  · rw [hg]; exact hR
  · rw [hg]; exact hB
  · rw [hg]; exact hC
  · rw [hg]; exact hK
theorem q_warp {sc : pm_S} {w : pm_W} (a1 a2 : Int32) (h : pm_J w) : pm_Mt sc 38 100 3 [.ref 0, .int a1, .int a2] w (pm_QS sc 175 3 [.ref 59, .int a1, .int a2]) := by
  obtain ⟨gi, ga, hI, hM, hR, hB, hC, hK⟩ := h
  refine m_up (by decide) (m_weak (c_X_warp a1 a2 hR hI) (fun rv w1 hq => ?_))
  obtain ⟨e, g1, g2⟩ := hq
  have hM1 := hM.hi g2
  refine ⟨hM1.c59, _, e, m_up (by decide) (m_weak (c_M_warp a1 a2 hR hM1) (fun r2 w2 hq2 => ?_))⟩
  obtain ⟨e2, f1, f2⟩ := hq2
  refine ⟨e2, _, _, g1.lo f2, f1, rg_warp hR a1 a2, bg_warp hR hB a1 a2, cr_warp hR hC a1 a2, k_warp hR hK a1 a2⟩
theorem q_cards {sc : pm_S} {w : pm_W} (a1 : Int32) (h : pm_J w) : pm_Mt sc 38 101 2 [.ref 0, .int a1] w (pm_QS sc 176 3 [.ref 59, .int a1]) := by
  obtain ⟨gi, ga, hI, hM, hR, hB, hC, hK⟩ := h
  refine m_up (by decide) (m_weak (c_X_cards a1 hR hI) (fun rv w1 hq => ?_))
  obtain ⟨e, g1, g2⟩ := hq
  have hM1 := hM.hi g2
  refine ⟨hM1.c59, _, e, m_up (by decide) (m_weak (c_M_cards a1 hR hM1) (fun r2 w2 hq2 => ?_))⟩
  obtain ⟨e2, f1, f2⟩ := hq2
  refine ⟨e2, _, _, g1.lo f2, f1, rg_cards hR a1, bg_cards hR hB a1, cr_cards hR hC (hI.2 2 (by decide)).1 (hM.2.1 78 (by decide) (by decide)).1 a1, k_cards hR hK a1⟩
theorem q_hang {sc : pm_S} {w : pm_W} (a1 : Int32) (h : pm_J w) : pm_Mt sc 38 102 3 [.ref 0, .int a1] w (pm_QS sc 178 4 [.ref 59, .int a1]) := by
  obtain ⟨gi, ga, hI, hM, hR, hB, hC, hK⟩ := h
  refine m_up (by decide) (m_weak (c_X_hang a1 hR hI) (fun rv w1 hq => ?_))
  obtain ⟨e, g1, g2⟩ := hq
  have hM1 := hM.hi g2
  refine ⟨hM1.c59, _, e, m_up (by decide) (m_weak (c_M_hang a1 hR hM1 hC (fun j hj => (hI.rows hj).1)) (fun r2 w2 hq2 => ?_))⟩
  obtain ⟨e2, f1, f2⟩ := hq2
  refine ⟨e2, _, _, g1.lo f2, f1, rg_hang hR a1, ?_, cr_hang hC a1, k_hang hK a1⟩
  · unfold sp_hang
    repeat' split
    all_goals exact hB
theorem q_cut {sc : pm_S} {w : pm_W} (a1 a2 : Int32) (h : pm_J w) : pm_Mt sc 38 103 4 [.ref 0, .int a1, .int a2] w (pm_QS sc 179 4 [.ref 59, .int a1, .int a2]) := by
  obtain ⟨gi, ga, hI, hM, hR, hB, hC, hK⟩ := h
  refine m_up (by decide) (m_weak (c_X_cut a1 a2 hR hI) (fun rv w1 hq => ?_))
  obtain ⟨e, g1, g2⟩ := hq
  have hM1 := hM.hi g2
  refine ⟨hM1.c59, _, e, m_up (by decide) (m_weak (c_M_cut a1 a2 hR hM1) (fun r2 w2 hq2 => ?_))⟩
  obtain ⟨e2, f1, f2⟩ := hq2
  refine ⟨e2, _, _, g1.lo f2, f1, rg_cut hR a1 a2, bg_cut hR hB a1 a2, cr_cut hR hC a1 a2, k_cut hR hK a1 a2⟩
theorem q_join {sc : pm_S} {w : pm_W} (a1 a2 : Int32) (h : pm_J w) : pm_Mt sc 38 104 6 [.ref 0, .int a1, .int a2] w (pm_QS sc 180 3 [.ref 59, .int a1, .int a2]) := by
  obtain ⟨gi, ga, hI, hM, hR, hB, hC, hK⟩ := h
  refine m_up (by decide) (m_weak (c_X_join a1 a2 hR hI hB) (fun rv w1 hq => ?_))
  obtain ⟨e, g1, g2⟩ := hq
  have hM1 := hM.hi g2
  refine ⟨hM1.c59, _, e, m_up (by decide) (m_weak (c_M_join a1 a2 hR hM1) (fun r2 w2 hq2 => ?_))⟩
  obtain ⟨e2, f1, f2⟩ := hq2
  refine ⟨e2, _, _, g1.lo f2, f1, rg_join hR a1 a2, bg_join hR hB a1 a2, cr_join hR hC a1 a2, k_join hR hK a1 a2⟩
theorem q_beamOf {sc : pm_S} {w : pm_W} (a1 a2 : Int32) (h : pm_J w) : pm_Mt sc 38 105 3 [.ref 0, .int a1, .int a2] w (pm_QW sc 181 5 [.ref 59, .int a1, .int a2]) := by
  obtain ⟨gi, ga, hI, hM, hR, hB, hC, hK⟩ := h
  refine m_up (by decide) (m_weak (c_X_beamOf a1 a2 hR hI) (fun rv w1 hq => ?_))
  obtain ⟨⟨v, e⟩, g1, g2⟩ := hq
  have hM1 := hM.hi g2
  refine ⟨hM1.c59, v, e, m_up (by decide) (m_weak (c_M_beamOf a1 a2 hR hM1) (fun r2 w2 hq2 => ?_))⟩
  obtain ⟨⟨v2, e2⟩, f1, f2⟩ := hq2
  exact ⟨⟨v2, e2⟩, gi, ga, g1.lo f2, f1, hR, hB, hC, hK⟩
theorem q_orderOf {sc : pm_S} {w : pm_W} (a1 a2 : Int32) (h : pm_J w) : pm_Mt sc 38 106 3 [.ref 0, .int a1, .int a2] w (pm_QS sc 182 3 [.ref 59, .int a1, .int a2]) := by
  obtain ⟨gi, ga, hI, hM, hR, hB, hC, hK⟩ := h
  refine m_up (by decide) (m_weak (c_X_orderOf a1 a2 hR hI) (fun rv w1 hq => ?_))
  obtain ⟨e, g1, g2⟩ := hq
  have hM1 := hM.hi g2
  refine ⟨hM1.c59, _, e, m_up (by decide) (m_weak (c_M_orderOf a1 a2 hR hM1) (fun r2 w2 hq2 => ?_))⟩
  obtain ⟨e2, f1, f2⟩ := hq2
  have hg := ga_orderOf (gi := gi) (ga := ga) a1 a2
  refine ⟨e2, _, _, g1.lo f2, f1, ?_, ?_, ?_, ?_⟩
  · rw [hg]; exact hR
  · rw [hg]; exact hB
  · rw [hg]; exact hC
  · rw [hg]; exact hK
theorem q_count {sc : pm_S} {w : pm_W} (a1 : Int32) (h : pm_J w) : pm_Mt sc 38 107 2 [.ref 0, .int a1] w (pm_QW sc 183 4 [.ref 59, .int a1]) := by
  obtain ⟨gi, ga, hI, hM, hR, hB, hC, hK⟩ := h
  refine m_up (by decide) (m_weak (W_X11_count_0 a1 hR hI pm_hi.rf) (fun rv w1 hq => ?_))
  obtain ⟨⟨v, e, -⟩, g1, g2⟩ := hq
  have hM1 := hM.hi g2
  refine ⟨hM1.c59, v, e, m_up (by decide) (m_weak (W_X12_count_59 a1 hR hM1 pm_lo.rf) (fun r2 w2 hq2 => ?_))⟩
  obtain ⟨⟨v2, e2, -⟩, f1, f2⟩ := hq2
  exact ⟨⟨v2, e2⟩, gi, ga, g1.lo f2, f1, hR, hB, hC, hK⟩

