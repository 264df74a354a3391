/-- the cloth as both sides have it -/
def pm_Cj (gi : Nat → Int32) (ga : Nat → List Int32) : Prop := ((gi 9).toInt = 1 → gi 12 = gi 10 ∧ gi 13 = gi 11 ∧ ∀ x y, x < (gi 10).toInt.toNat → y < (gi 11).toInt.toNat → (ga 27).getD (20 * y + x) 0 = (ga 24).getD (20 * y + x) 0) ∧ sq_Oz (ga 24) (gi 10).toInt.toNat (gi 11).toInt.toNat
theorem pm_Fj0 : pm_Fj pm_ga0 := ⟨fun k h1 h3 => by
  match k, h1, h3 with
  | 1, _, _ => exact Or.inr ⟨by decide, by decide⟩
  | 2, _, _ => exact Or.inr ⟨by decide, by decide⟩
  | 3, _, _ => exact Or.inr ⟨by decide, by decide⟩, fun h => absurd h (by decide)⟩
theorem pm_Cj0 : pm_Cj pm_gi0 pm_ga0 := ⟨fun h => absurd h (by decide), sq_Oz.rep⟩
theorem pm_Fj.of {ga ga' : Nat → List Int32} (h : pm_Fj ga) (e1 : ga' 21 = ga 21) (e2 : ga' 22 = ga 22) (e3 : ga' 23 = ga 23) (e5 : ga' 25 = ga 25) (e6 : ga' 26 = ga 26) : pm_Fj ga' := by
  unfold pm_Fj
  rw [e1, e2, e3, e5, e6]
  exact h
theorem pm_Cj.of {gi gi' : Nat → Int32} {ga ga' : Nat → List Int32} (h : pm_Cj gi ga) (e9 : gi' 9 = gi 9) (e0 : gi' 10 = gi 10) (e1 : gi' 11 = gi 11) (e2 : gi' 12 = gi 12) (e3 : gi' 13 = gi 13) (a4 : ga' 24 = ga 24) (a7 : ga' 27 = ga 27) : pm_Cj gi' ga' := by
  unfold pm_Cj
  rw [e9, e0, e1, e2, e3, a4, a7]
  exact h
theorem fj_paper {gi : Nat → Int32} {ga : Nat → List Int32} (h : pm_Fj ga) (a1 a2 : Int32) : pm_Fj (sp_paper gi ga a1 a2).2.2 := by
  unfold sp_paper
  repeat' split
  all_goals first | exact h | exact h.of rfl rfl rfl rfl rfl
theorem cj_paper {gi : Nat → Int32} {ga : Nat → List Int32} (h : pm_Cj gi ga) (a1 a2 : Int32) : pm_Cj (sp_paper gi ga a1 a2).2.1 (sp_paper gi ga a1 a2).2.2 := by
  unfold sp_paper
  repeat' split
  all_goals first | exact h | exact h.of rfl rfl rfl rfl rfl rfl rfl
theorem fj_square {gi : Nat → Int32} {ga : Nat → List Int32} (h : pm_Fj ga) (a1 a2 a3 : Int32) : pm_Fj (sp_square gi ga a1 a2 a3).2.2 := by
  unfold sp_square
  repeat' split
  all_goals first | exact h | exact h.of rfl rfl rfl rfl rfl
theorem cj_square {gi : Nat → Int32} {ga : Nat → List Int32} (h : pm_Cj gi ga) (a1 a2 a3 : Int32) : pm_Cj (sp_square gi ga a1 a2 a3).2.1 (sp_square gi ga a1 a2 a3).2.2 := by
  unfold sp_square
  repeat' split
  all_goals first | exact h | exact h.of rfl rfl rfl rfl rfl rfl rfl
theorem fj_fill {gi : Nat → Int32} {ga : Nat → List Int32} (h : pm_Fj ga) (a1 a2 a3 a4 : Int32) : pm_Fj (sp_fill gi ga a1 a2 a3 a4).2.2 := by
  unfold sp_fill
  repeat' split
  all_goals first | exact h | exact h.of rfl rfl rfl rfl rfl
theorem cj_fill {gi : Nat → Int32} {ga : Nat → List Int32} (h : pm_Cj gi ga) (a1 a2 a3 a4 : Int32) : pm_Cj (sp_fill gi ga a1 a2 a3 a4).2.1 (sp_fill gi ga a1 a2 a3 a4).2.2 := by
  unfold sp_fill
  repeat' split
  all_goals first | exact h | exact h.of rfl rfl rfl rfl rfl rfl rfl
theorem fj_at {gi : Nat → Int32} {ga : Nat → List Int32} (h : pm_Fj ga) (a1 a2 : Int32) : pm_Fj (sp_at gi ga a1 a2).2.2 := by
  unfold sp_at
  repeat' split
  all_goals first | exact h | exact h.of rfl rfl rfl rfl rfl
theorem cj_at {gi : Nat → Int32} {ga : Nat → List Int32} (h : pm_Cj gi ga) (a1 a2 : Int32) : pm_Cj (sp_at gi ga a1 a2).2.1 (sp_at gi ga a1 a2).2.2 := by
  unfold sp_at
  repeat' split
  all_goals first | exact h | exact h.of rfl rfl rfl rfl rfl rfl rfl
theorem fj_limit {gi : Nat → Int32} {ga : Nat → List Int32} (h : pm_Fj ga) (a1 : Int32) : pm_Fj (sp_limit gi ga a1).2.2 := by
  unfold sp_limit
  repeat' split
  all_goals first | exact h | exact h.of rfl rfl rfl rfl rfl
theorem cj_limit {gi : Nat → Int32} {ga : Nat → List Int32} (h : pm_Cj gi ga) (a1 : Int32) : pm_Cj (sp_limit gi ga a1).2.1 (sp_limit gi ga a1).2.2 := by
  unfold sp_limit
  repeat' split
  all_goals first | exact h | exact h.of rfl rfl rfl rfl rfl rfl rfl
theorem fj_set {gi : Nat → Int32} {ga : Nat → List Int32} (h : pm_Fj ga) (a1 a2 : Int32) : pm_Fj (sp_set gi ga a1 a2).2.2 := by
  unfold sp_set
  repeat' split
  all_goals first | exact h | exact h.of rfl rfl rfl rfl rfl
theorem cj_set {gi : Nat → Int32} {ga : Nat → List Int32} (h : pm_Cj gi ga) (a1 a2 : Int32) : pm_Cj (sp_set gi ga a1 a2).2.1 (sp_set gi ga a1 a2).2.2 := by
  unfold sp_set
  repeat' split
  all_goals first | exact h | exact h.of rfl rfl rfl rfl rfl rfl rfl
theorem fj_order {gi : Nat → Int32} {ga : Nat → List Int32} (h : pm_Fj ga) (a1 a2 a3 : Int32) : pm_Fj (sp_order gi ga a1 a2 a3).2.2 := by
  unfold sp_order
  repeat' split
  all_goals first | exact h | exact h.of rfl rfl rfl rfl rfl
theorem cj_order {gi : Nat → Int32} {ga : Nat → List Int32} (h : pm_Cj gi ga) (a1 a2 a3 : Int32) : pm_Cj (sp_order gi ga a1 a2 a3).2.1 (sp_order gi ga a1 a2 a3).2.2 := by
  unfold sp_order
  repeat' split
  all_goals first | exact h | exact h.of rfl rfl rfl rfl rfl rfl rfl
theorem fj_work {gi : Nat → Int32} {ga : Nat → List Int32} (h : pm_Fj ga) (a1 : Int32) : pm_Fj (sp_work gi ga a1).2.2 := by
  unfold sp_work
  repeat' split
  all_goals first | exact h | exact h.of rfl rfl rfl rfl rfl
theorem cj_work {gi : Nat → Int32} {ga : Nat → List Int32} (h : pm_Cj gi ga) (a1 : Int32) : pm_Cj (sp_work gi ga a1).2.1 (sp_work gi ga a1).2.2 := by
  unfold sp_work
  repeat' split
  all_goals first | exact h | exact h.of rfl rfl rfl rfl rfl rfl rfl
theorem fj_days {gi : Nat → Int32} {ga : Nat → List Int32} (h : pm_Fj ga) (a1 : Int32) : pm_Fj (sp_days gi ga a1).2.2 := by
  unfold sp_days
  repeat' split
  all_goals first | exact h | exact h.of rfl rfl rfl rfl rfl
theorem cj_days {gi : Nat → Int32} {ga : Nat → List Int32} (h : pm_Cj gi ga) (a1 : Int32) : pm_Cj (sp_days gi ga a1).2.1 (sp_days gi ga a1).2.2 := by
  unfold sp_days
  repeat' split
  all_goals first | exact h | exact h.of rfl rfl rfl rfl rfl rfl rfl
theorem fj_law {gi : Nat → Int32} {ga : Nat → List Int32} (h : pm_Fj ga) (a1 a2 a3 : Int32) : pm_Fj (sp_law gi ga a1 a2 a3).2.2 := by
  unfold sp_law
  repeat' split
  all_goals first | exact h | exact h.of rfl rfl rfl rfl rfl
theorem cj_law {gi : Nat → Int32} {ga : Nat → List Int32} (h : pm_Cj gi ga) (a1 a2 a3 : Int32) : pm_Cj (sp_law gi ga a1 a2 a3).2.1 (sp_law gi ga a1 a2 a3).2.2 := by
  unfold sp_law
  repeat' split
  all_goals first | exact h | exact h.of rfl rfl rfl rfl rfl rfl rfl
theorem fj_silk {gi : Nat → Int32} {ga : Nat → List Int32} (h : pm_Fj ga) (a1 a2 a3 a4 : Int32) : pm_Fj (sp_silk gi ga a1 a2 a3 a4).2.2 := by
  unfold sp_silk
  repeat' split
  all_goals first | exact h | exact h.of rfl rfl rfl rfl rfl
theorem cj_silk {gi : Nat → Int32} {ga : Nat → List Int32} (h : pm_Cj gi ga) (a1 a2 a3 a4 : Int32) : pm_Cj (sp_silk gi ga a1 a2 a3 a4).2.1 (sp_silk gi ga a1 a2 a3 a4).2.2 := by
  unfold sp_silk
  repeat' split
  all_goals first | exact h | exact h.of rfl rfl rfl rfl rfl rfl rfl
theorem fj_warp {gi : Nat → Int32} {ga : Nat → List Int32} (h : pm_Fj ga) (a1 a2 : Int32) : pm_Fj (sp_warp gi ga a1 a2).2.2 := by
  unfold sp_warp
  repeat' split
  all_goals first | exact h | exact h.of rfl rfl rfl rfl rfl
theorem cj_warp {gi : Nat → Int32} {ga : Nat → List Int32} (h : pm_Cj gi ga) (a1 a2 : Int32) : pm_Cj (sp_warp gi ga a1 a2).2.1 (sp_warp gi ga a1 a2).2.2 := by
  unfold sp_warp
  repeat' split
  all_goals first | exact h | exact h.of rfl rfl rfl rfl rfl rfl rfl
theorem fj_cards {gi : Nat → Int32} {ga : Nat → List Int32} (h : pm_Fj ga) (a1 : Int32) : pm_Fj (sp_cards gi ga a1).2.2 := by
  unfold sp_cards
  split
  · exact h
  · split
    · exact h
    · exact h.of ((pm_cd_i (gi := gi) (ga := ga) (j := a1.toInt.toNat) (i := 21) (by decide) (by omega)).trans rfl) ((pm_cd_i (gi := gi) (ga := ga) (j := a1.toInt.toNat) (i := 22) (by decide) (by omega)).trans rfl) ((pm_cd_i (gi := gi) (ga := ga) (j := a1.toInt.toNat) (i := 23) (by decide) (by omega)).trans rfl) ((pm_cd_i (gi := gi) (ga := ga) (j := a1.toInt.toNat) (i := 25) (by decide) (by omega)).trans rfl) ((pm_cd_i (gi := gi) (ga := ga) (j := a1.toInt.toNat) (i := 26) (by decide) (by omega)).trans rfl)
theorem cj_cards {gi : Nat → Int32} {ga : Nat → List Int32} (h : pm_Cj gi ga) (a1 : Int32) : pm_Cj (sp_cards gi ga a1).2.1 (sp_cards gi ga a1).2.2 := by
  unfold sp_cards
  split
  · exact h
  · split
    · exact h
    · exact h.of rfl rfl rfl rfl rfl ((pm_cd_i (gi := gi) (ga := ga) (j := a1.toInt.toNat) (i := 24) (by decide) (by omega)).trans rfl) ((pm_cd_i (gi := gi) (ga := ga) (j := a1.toInt.toNat) (i := 27) (by decide) (by omega)).trans rfl)
theorem fj_hang {gi : Nat → Int32} {ga : Nat → List Int32} (h : pm_Fj ga) (a1 : Int32) : pm_Fj (sp_hang gi ga a1).2.2 := by
  unfold sp_hang
  repeat' split
  all_goals first | exact h | exact h.of rfl rfl rfl rfl rfl
theorem cj_hang {gi : Nat → Int32} {ga : Nat → List Int32} (h : pm_Cj gi ga) (a1 : Int32) : pm_Cj (sp_hang gi ga a1).2.1 (sp_hang gi ga a1).2.2 := by
  unfold sp_hang
  repeat' split
  all_goals first | exact h | exact h.of rfl rfl rfl rfl rfl rfl rfl
theorem fj_cut {gi : Nat → Int32} {ga : Nat → List Int32} (h : pm_Fj ga) (a1 a2 : Int32) : pm_Fj (sp_cut gi ga a1 a2).2.2 := by
  unfold sp_cut pm_wp
  repeat' split
  all_goals first | exact h | exact h.of rfl rfl rfl rfl rfl
theorem cj_cut {gi : Nat → Int32} {ga : Nat → List Int32} (h : pm_Cj gi ga) (a1 a2 : Int32) : pm_Cj (sp_cut gi ga a1 a2).2.1 (sp_cut gi ga a1 a2).2.2 := by
  unfold sp_cut pm_wp
  repeat' split
  all_goals first | exact h | exact h.of rfl rfl rfl rfl rfl rfl rfl
theorem fj_join {gi : Nat → Int32} {ga : Nat → List Int32} (h : pm_Fj ga) (a1 a2 : Int32) : pm_Fj (sp_join gi ga a1 a2).2.2 := by
  unfold sp_join
  repeat' split
  all_goals first | exact h | exact h.of rfl rfl rfl rfl rfl
theorem cj_join {gi : Nat → Int32} {ga : Nat → List Int32} (h : pm_Cj gi ga) (a1 a2 : Int32) : pm_Cj (sp_join gi ga a1 a2).2.1 (sp_join gi ga a1 a2).2.2 := by
  unfold sp_join
  repeat' split
  all_goals first | exact h | exact h.of rfl rfl rfl rfl rfl rfl rfl
def pm_J (w : pm_W) : Prop := ∃ (gi : Nat → Int32) (ga : Nat → List Int32), pm_IX gi ga w ∧ pm_IM gi ga w ∧ pm_Rg gi ga ∧ pm_Bg ga ∧ pm_Cr ga ∧ pm_K gi ga ∧ pm_Fj ga ∧ pm_Cj gi ga
theorem pm_Cr0 : pm_Cr pm_ga0 := by
  intro b hb h
  match b, hb, h with
  | 0, _, h => exact absurd h (by decide)
  | 1, _, h => exact absurd h (by decide)
  | 2, _, h => exact absurd h (by decide)
  | 3, _, h => exact absurd h (by decide)
theorem pm_Bg0 : pm_Bg pm_ga0 := by
  intro j hj h
  match j, hj, h with
  | 0, _, h => exact absurd h (by decide)
  | 1, _, h => exact absurd h (by decide)
  | 2, _, h => exact absurd h (by decide)
  | 3, _, h => exact absurd h (by decide)
theorem pm_J0 : pm_J pm_w2 := ⟨pm_gi0, pm_ga0, pm_IX0, pm_IM0, pm_Rg0, pm_Bg0, pm_Cr0, pm_K0, pm_Fj0, pm_Cj0⟩
theorem pm_J.c0 {w : pm_W} (h : pm_J w) : ∃ fs, w[0]? = some (.inr (11, fs)) := by
  obtain ⟨gi, ga, hI, -⟩ := h
  obtain ⟨v, -, e⟩ := hI.2 0 (by decide)
  exact ⟨_, e⟩
theorem pm_IM.c59 {gi : Nat → Int32} {ga : Nat → List Int32} {w : pm_W} (h : pm_IM gi ga w) : ∃ fs, w[59]? = some (.inr (12, fs)) := by
  obtain ⟨_, _, _, _, _, _, _, _, -, -, -, -, -, e⟩ := h.2.1 59 (by decide) (by decide)
  exact ⟨_, e⟩
theorem m_up {sc : pm_S} {k k' mj mL : Nat} {as : List Value} {w : pm_W} {Q : Option Value → pm_W → Prop} (hk : k ≤ k') (h : pm_Mt sc k mj mL as w Q) : pm_Mt sc k' mj mL as w Q := fun d hd => h d (Nat.le_trans hk hd)
def pm_QS (sc : pm_S) (mm mL : Nat) (as : List Value) (rv : Option Value) (w1 : pm_W) : Prop := (∃ fs, w1[59]? = some (.inr (12, fs))) ∧ ∃ v, rv = some (.int v) ∧ pm_Mt sc 38 mm mL as w1 (fun r2 w2 => r2 = some (.int v) ∧ pm_J w2)
def pm_QW (sc : pm_S) (mm mL : Nat) (as : List Value) (rv : Option Value) (w1 : pm_W) : Prop := (∃ fs, w1[59]? = some (.inr (12, fs))) ∧ ∃ v, rv = some (.int v) ∧ pm_Mt sc 38 mm mL as w1 (fun r2 w2 => (∃ v2, r2 = some (.int v2)) ∧ pm_J w2)
theorem pm_QS.w {sc : pm_S} {mm mL : Nat} {as : List Value} {rv : Option Value} {w1 : pm_W} (h : pm_QS sc mm mL as rv w1) : pm_QW sc mm mL as rv w1 := by
  obtain ⟨h1, v, e, m⟩ := h
  exact ⟨h1, v, e, m_weak m (fun _ _ g => ⟨⟨v, g.1⟩, g.2⟩)⟩
theorem q_paper {sc : pm_S} {w : pm_W} (a1 a2 : Int32) (h : pm_J w) : pm_Mt sc 38 71 3 [.ref 0, .int a1, .int a2] w (pm_QS sc 121 4 [.ref 59, .int a1, .int a2]) := by
  obtain ⟨gi, ga, hI, hM, hR, hB, hC, hK, hF, hL⟩ := h
  refine m_up (by decide) (m_weak (c_X_paper a1 a2 hR hI) (fun rv w1 hq => ?_))
  obtain ⟨e, g1, g2⟩ := hq
  have hM1 := hM.hi g2
  refine ⟨hM1.c59, _, e, m_up (by decide) (m_weak (c_M_paper a1 a2 hR hM1) (fun r2 w2 hq2 => ?_))⟩
  obtain ⟨e2, f1, f2⟩ := hq2
  refine ⟨e2, _, _, g1.lo f2, f1, rg_paper hR a1 a2, ?_, ?_, k_paper hK a1 a2, fj_paper hF a1 a2, cj_paper hL a1 a2⟩
  · unfold sp_paper
    repeat' split
    all_goals exact hB
  · unfold sp_paper
    repeat' split
    all_goals first | exact hC | exact hC.of (fun _ _ e => e) rfl (fun b hb => by dsimp only; repeat rw [pm_uA_ne (by omega)])
theorem q_square {sc : pm_S} {w : pm_W} (a1 a2 a3 : Int32) (h : pm_J w) : pm_Mt sc 38 72 4 [.ref 0, .int a1, .int a2, .int a3] w (pm_QS sc 122 5 [.ref 59, .int a1, .int a2, .int a3]) := by
  obtain ⟨gi, ga, hI, hM, hR, hB, hC, hK, hF, hL⟩ := h
  refine m_up (by decide) (m_weak (c_X_square a1 a2 a3 hR hI) (fun rv w1 hq => ?_))
  obtain ⟨e, g1, g2⟩ := hq
  have hM1 := hM.hi g2
  refine ⟨hM1.c59, _, e, m_up (by decide) (m_weak (c_M_square a1 a2 a3 hR hM1) (fun r2 w2 hq2 => ?_))⟩
  obtain ⟨e2, f1, f2⟩ := hq2
  refine ⟨e2, _, _, g1.lo f2, f1, ?_, ?_, ?_, k_square hR (hI.2 2 (by decide)).1 hK a1 a2 a3, fj_square hF a1 a2 a3, cj_square hL a1 a2 a3⟩
  · unfold sp_square
    repeat' split
    all_goals exact hR
  · unfold sp_square
    repeat' split
    all_goals exact hB
  · unfold sp_square
    repeat' split
    all_goals first | exact hC | exact hC.of (fun _ _ e => e) rfl (fun b hb => by dsimp only; repeat rw [pm_uA_ne (by omega)])
theorem q_fill {sc : pm_S} {w : pm_W} (a1 a2 a3 a4 : Int32) (h : pm_J w) : pm_Mt sc 38 73 6 [.ref 0, .int a1, .int a2, .int a3, .int a4] w (pm_QS sc 123 6 [.ref 59, .int a1, .int a2, .int a3, .int a4]) := by
  obtain ⟨gi, ga, hI, hM, hR, hB, hC, hK, hF, hL⟩ := h
  refine m_up (by decide) (m_weak (c_X_fill a1 a2 a3 a4 hR hI) (fun rv w1 hq => ?_))
  obtain ⟨e, g1, g2⟩ := hq
  have hM1 := hM.hi g2
  refine ⟨hM1.c59, _, e, m_up (by decide) (m_weak (c_M_fill a1 a2 a3 a4 hR hM1) (fun r2 w2 hq2 => ?_))⟩
  obtain ⟨e2, f1, f2⟩ := hq2
  refine ⟨e2, _, _, g1.lo f2, f1, ?_, ?_, ?_, k_fill hR (hI.2 2 (by decide)).1 hK a1 a2 a3 a4, fj_fill hF a1 a2 a3 a4, cj_fill hL a1 a2 a3 a4⟩
  · unfold sp_fill
    repeat' split
    all_goals exact hR
  · unfold sp_fill
    repeat' split
    all_goals exact hB
  · unfold sp_fill
    repeat' split
    all_goals first | exact hC | exact hC.of (fun _ _ e => e) rfl (fun b hb => by dsimp only; repeat rw [pm_uA_ne (by omega)])
theorem q_at {sc : pm_S} {w : pm_W} (a1 a2 : Int32) (h : pm_J w) : pm_Mt sc 38 74 3 [.ref 0, .int a1, .int a2] w (pm_QS sc 124 3 [.ref 59, .int a1, .int a2]) := by
  obtain ⟨gi, ga, hI, hM, hR, hB, hC, hK, hF, hL⟩ := h
  refine m_up (by decide) (m_weak (c_X_at a1 a2 hR hI) (fun rv w1 hq => ?_))
  obtain ⟨e, g1, g2⟩ := hq
  have hM1 := hM.hi g2
  refine ⟨hM1.c59, _, e, m_up (by decide) (m_weak (c_M_at a1 a2 hR hM1) (fun r2 w2 hq2 => ?_))⟩
  obtain ⟨e2, f1, f2⟩ := hq2
  refine ⟨e2, _, _, g1.lo f2, f1, ?_, ?_, ?_, ?_, fj_at hF a1 a2, cj_at hL a1 a2⟩
  · unfold sp_at
    repeat' split
    all_goals exact hR
  · unfold sp_at
    repeat' split
    all_goals exact hB
  · unfold sp_at
    repeat' split
    all_goals first | exact hC | exact hC.of (fun _ _ e => e) rfl (fun b hb => by dsimp only; repeat rw [pm_uA_ne (by omega)])
  · unfold sp_at
    repeat' split
    all_goals first | exact hK | exact hK.of rfl rfl rfl rfl rfl rfl rfl rfl rfl rfl rfl
theorem q_span {sc : pm_S} {w : pm_W} (a1 : Int32) (h : pm_J w) : pm_Mt sc 38 75 2 [.ref 0, .int a1] w (pm_QW sc 126 4 [.ref 59, .int a1]) := by
  obtain ⟨gi, ga, hI, hM, hR, hB, hC, hK, hF, hL⟩ := h
  refine m_up (by decide) (m_weak (W_X11_span_0 a1 hR hI pm_hi.rf) (fun rv w1 hq => ?_))
  obtain ⟨⟨v, e, -⟩, g1, g2⟩ := hq
  have hM1 := hM.hi g2
  refine ⟨hM1.c59, v, e, m_up (by decide) (m_weak (W_X12_span_59 a1 hR hM1 pm_lo.rf) (fun r2 w2 hq2 => ?_))⟩
  obtain ⟨⟨v2, e2, -⟩, f1, f2⟩ := hq2
  exact ⟨⟨v2, e2⟩, gi, ga, g1.lo f2, f1, hR, hB, hC, hK, hF, hL⟩
theorem q_mirror {sc : pm_S} {w : pm_W} (a1 : Int32) (h : pm_J w) : pm_Mt sc 38 76 2 [.ref 0, .int a1] w (pm_QW sc 128 3 [.ref 59, .int a1]) := by
  obtain ⟨gi, ga, hI, hM, hR, hB, hC, hK, hF, hL⟩ := h
  refine m_up (by decide) (m_weak (W_X11_mirror_0 a1 hR hI pm_hi.rf) (fun rv w1 hq => ?_))
  obtain ⟨⟨v, e, -⟩, g1, g2⟩ := hq
  have hM1 := hM.hi g2
  refine ⟨hM1.c59, v, e, m_up (by decide) (m_weak (W_X12_mirror_59 a1 hR hM1 pm_lo.rf) (fun r2 w2 hq2 => ?_))⟩
  obtain ⟨⟨v2, e2, -⟩, f1, f2⟩ := hq2
  exact ⟨⟨v2, e2⟩, gi, ga, g1.lo f2, f1, hR, hB, hC, hK, hF, hL⟩
theorem q_cords {sc : pm_S} {w : pm_W} (h : pm_J w) : pm_Mt sc 38 77 1 [.ref 0] w (pm_QW sc 131 1 [.ref 59]) := by
  obtain ⟨gi, ga, hI, hM, hR, hB, hC, hK, hF, hL⟩ := h
  refine m_up (by decide) (m_weak (W_X11_cords_0  hR hI pm_hi.rf) (fun rv w1 hq => ?_))
  obtain ⟨⟨v, e, -⟩, g1, g2⟩ := hq
  have hM1 := hM.hi g2
  refine ⟨hM1.c59, v, e, m_up (by decide) (m_weak (W_X12_cords_59  hR hM1 pm_lo.rf) (fun r2 w2 hq2 => ?_))⟩
  obtain ⟨⟨v2, e2, -⟩, f1, f2⟩ := hq2
  exact ⟨⟨v2, e2⟩, gi, ga, g1.lo f2, f1, hR, hB, hC, hK, hF, hL⟩
theorem q_cord {sc : pm_S} {w : pm_W} (a1 : Int32) (h : pm_J w) : pm_Mt sc 38 78 2 [.ref 0, .int a1] w (pm_QW sc 132 2 [.ref 59, .int a1]) := by
  obtain ⟨gi, ga, hI, hM, hR, hB, hC, hK, hF, hL⟩ := h
  refine m_up (by decide) (m_weak (W_X11_cord_0 a1 hR hI pm_hi.rf) (fun rv w1 hq => ?_))
  obtain ⟨⟨v, e, -⟩, g1, g2⟩ := hq
  have hM1 := hM.hi g2
  refine ⟨hM1.c59, v, e, m_up (by decide) (m_weak (W_X12_cord_59 a1 hR hM1 pm_lo.rf) (fun r2 w2 hq2 => ?_))⟩
  obtain ⟨⟨v2, e2, -⟩, f1, f2⟩ := hq2
  exact ⟨⟨v2, e2⟩, gi, ga, g1.lo f2, f1, hR, hB, hC, hK, hF, hL⟩
theorem q_pull {sc : pm_S} {w : pm_W} (a1 a2 : Int32) (h : pm_J w) : pm_Mt sc 38 79 3 [.ref 0, .int a1, .int a2] w (pm_QW sc 134 3 [.ref 59, .int a1, .int a2]) := by
  obtain ⟨gi, ga, hI, hM, hR, hB, hC, hK, hF, hL⟩ := h
  refine m_up (by decide) (m_weak (W_X11_pull_0 a1 a2 hR hI pm_hi.rf) (fun rv w1 hq => ?_))
  obtain ⟨⟨v, e, -⟩, g1, g2⟩ := hq
  have hM1 := hM.hi g2
  refine ⟨hM1.c59, v, e, m_up (by decide) (m_weak (W_X12_pull_59 a1 a2 hR hM1 pm_lo.rf) (fun r2 w2 hq2 => ?_))⟩
  obtain ⟨⟨v2, e2, -⟩, f1, f2⟩ := hq2
  exact ⟨⟨v2, e2⟩, gi, ga, g1.lo f2, f1, hR, hB, hC, hK, hF, hL⟩
theorem q_pulls {sc : pm_S} {w : pm_W} (h : pm_J w) : pm_Mt sc 38 80 3 [.ref 0] w (pm_QW sc 136 1 [.ref 59]) := by
  obtain ⟨gi, ga, hI, hM, hR, hB, hC, hK, hF, hL⟩ := h
  refine m_up (by decide) (m_weak (W_X11_pulls_0  hR hI pm_hi.rf) (fun rv w1 hq => ?_))
  obtain ⟨⟨v, e, -⟩, g1, g2⟩ := hq
  have hM1 := hM.hi g2
  refine ⟨hM1.c59, v, e, m_up (by decide) (m_weak (W_X12_pulls_59  hR hM1 pm_lo.rf) (fun r2 w2 hq2 => ?_))⟩
  obtain ⟨⟨v2, e2, -⟩, f1, f2⟩ := hq2
  exact ⟨⟨v2, e2⟩, gi, ga, g1.lo f2, f1, hR, hB, hC, hK, hF, hL⟩
theorem q_pullOf {sc : pm_S} {w : pm_W} (a1 a2 : Int32) (h : pm_J w) : pm_Mt sc 38 81 4 [.ref 0, .int a1, .int a2] w (pm_QW sc 137 4 [.ref 59, .int a1, .int a2]) := by
  obtain ⟨gi, ga, hI, hM, hR, hB, hC, hK, hF, hL⟩ := h
  refine m_up (by decide) (m_weak (W_X11_pullOf_0 a1 a2 hR hI pm_hi.rf) (fun rv w1 hq => ?_))
  obtain ⟨⟨v, e, -⟩, g1, g2⟩ := hq
  have hM1 := hM.hi g2
  refine ⟨hM1.c59, v, e, m_up (by decide) (m_weak (W_X12_pullOf_59 a1 a2 hR hM1 pm_lo.rf) (fun r2 w2 hq2 => ?_))⟩
  obtain ⟨⟨v2, e2, -⟩, f1, f2⟩ := hq2
  exact ⟨⟨v2, e2⟩, gi, ga, g1.lo f2, f1, hR, hB, hC, hK, hF, hL⟩
theorem q_limit {sc : pm_S} {w : pm_W} (a1 : Int32) (h : pm_J w) : pm_Mt sc 38 82 3 [.ref 0, .int a1] w (pm_QS sc 138 3 [.ref 59, .int a1]) := by
  obtain ⟨gi, ga, hI, hM, hR, hB, hC, hK, hF, hL⟩ := h
  refine m_up (by decide) (m_weak (c_X_limit a1 hR hI) (fun rv w1 hq => ?_))
  obtain ⟨e, g1, g2⟩ := hq
  have hM1 := hM.hi g2
  refine ⟨hM1.c59, _, e, m_up (by decide) (m_weak (c_M_limit a1 hR hM1) (fun r2 w2 hq2 => ?_))⟩
  obtain ⟨e2, f1, f2⟩ := hq2
  refine ⟨e2, _, _, g1.lo f2, f1, rg_limit hR a1, ?_, ?_, ?_, fj_limit hF a1, cj_limit hL a1⟩
  · unfold sp_limit
    repeat' split
    all_goals exact hB
  · unfold sp_limit
    repeat' split
    all_goals first | exact hC | exact hC.of (fun _ _ e => e) rfl (fun b hb => by dsimp only; repeat rw [pm_uA_ne (by omega)])
  · unfold sp_limit
    repeat' split
    all_goals first | exact hK | exact hK.of rfl rfl rfl rfl rfl rfl rfl rfl rfl rfl rfl
theorem q_floats {sc : pm_S} {w : pm_W} (a1 a2 : Int32) (h : pm_J w) : pm_Mt sc 38 83 3 [.ref 0, .int a1, .int a2] w (pm_QW sc 142 8 [.ref 59, .int a1, .int a2]) := by
  obtain ⟨gi, ga, hI, hM, hR, hB, hC, hK, hF, hL⟩ := h
  refine m_up (by decide) (m_weak (W_X11_floats_0 a1 a2 hR hI pm_hi.rf) (fun rv w1 hq => ?_))
  obtain ⟨⟨v, e, -⟩, g1, g2⟩ := hq
  have hM1 := hM.hi g2
  refine ⟨hM1.c59, v, e, m_up (by decide) (m_weak (W_X12_floats_59 a1 a2 hR hM1 pm_lo.rf) (fun r2 w2 hq2 => ?_))⟩
  obtain ⟨⟨v2, e2, -⟩, f1, f2⟩ := hq2
  exact ⟨⟨v2, e2⟩, gi, ga, g1.lo f2, f1, hR, hB, hC, hK, hF, hL⟩
theorem q_mend {sc : pm_S} {w : pm_W} (a1 : Int32) (h : pm_J w) : pm_Mt sc 38 84 2 [.ref 0, .int a1] w (pm_QW sc 145 6 [.ref 59, .int a1]) := by
  obtain ⟨gi, ga, hI, hM, hR, hB, hC, hK, hF, hL⟩ := h
  refine m_up (by decide) (m_weak (W_X11_mend_0 a1 hR hI pm_hi.rf) (fun rv w1 hq => ?_))
  obtain ⟨⟨v, e, -⟩, g1, g2⟩ := hq
  have hM1 := hM.hi g2
  refine ⟨hM1.c59, v, e, m_up (by decide) (m_weak (W_X12_mend_59 a1 hR hM1 pm_lo.rf) (fun r2 w2 hq2 => ?_))⟩
  obtain ⟨⟨v2, e2, -⟩, f1, f2⟩ := hq2
  exact ⟨⟨v2, e2⟩, gi, ga, g1.lo f2, f1, hR, hB, hC, hK, hF, hL⟩
theorem q_fault {sc : pm_S} {w : pm_W} (a1 a2 a3 : Int32) (h : pm_J w) : pm_Mt sc 38 85 4 [.ref 0, .int a1, .int a2, .int a3] w (pm_QS sc 146 5 [.ref 59, .int a1, .int a2, .int a3]) := by
  obtain ⟨gi, ga, hI, hM, hR, hB, hC, hK, hF, hL⟩ := h
  refine m_up (by decide) (m_weak (W_X11_fault_0_x a1 a2 a3 hR hI pm_hi.rf) (fun rv w1 hq => ?_))
  obtain ⟨v, ga1, e, hv, hx, g1, g2⟩ := hq
  have hM1 := hM.hi g2
  refine ⟨hM1.c59, v, e, m_up (by decide) (m_weak (W_X12_fault_59_x a1 a2 a3 hR hM1 pm_lo.rf) (fun r2 w2 hq2 => ?_))⟩
  obtain ⟨u, ga2, e2, hu, hm, f1, f2⟩ := hq2
  have ev := rel_fault hu hv
  subst ev
  rcases hx with ⟨n1, x1⟩ | ⟨n1, k1, t, f, s, x1, u1, u2, u3⟩
  · rcases hm with ⟨-, y1⟩ | ⟨n2, -⟩
    · subst x1
      subst y1
      exact ⟨e2, _, _, g1.lo f2, f1, hR, hB, hC, hK, hF, hL⟩
    · exact absurd n2 n1
  · rcases hm with ⟨n2, -⟩ | ⟨-, -, b0, b3, A, B, y1, v1, v2, v3, v4⟩
    · exact absurd n1 n2
    · subst x1
      subst y1
      refine ⟨e2, gi, pm_uA (pm_uA (pm_uA (pm_uA (pm_uA ga 21 t) 22 f) 23 s) 25 A) 26 B, (g1.lo f2).agree (fun _ _ => rfl) (fun i hi => by rw [pm_uA_ne (by omega), pm_uA_ne (by omega)]), f1.agree (fun _ _ => rfl) (fun i hi => ?_), show pm_Rg _ _ from hR, hB, hC.of (fun _ _ e => e) rfl (fun b hb => by repeat rw [pm_uA_ne (by omega)]), hK.of rfl rfl rfl rfl rfl rfl rfl rfl rfl rfl rfl, ⟨fun k h1 h3 => ?_, fun h => ?_⟩, hL.of rfl rfl rfl rfl rfl rfl rfl⟩
      · by_cases c6 : i = 26
        · subst c6; rfl
        · by_cases c5 : i = 25
          · subst c5; rfl
          · rw [pm_uA_ne c6, pm_uA_ne c5, pm_uA_ne (by omega), pm_uA_ne (by omega), pm_uA_ne (by omega), pm_uA_ne c6, pm_uA_ne c5]
      · show ((t.getD k 0).toInt = 1 ∧ 0 ≤ (A.getD k 0).toInt ∧ f.getD k 0 = A.getD k 0) ∨ ((t.getD k 0).toInt = 0 ∧ (A.getD k 0).toInt < 0)
        by_cases c : k = a1.toInt.toNat
        · subst c
          rw [u1.2.1, u2.2.1, v1.2.1]
          exact Or.inl ⟨by decide, b0, rfl⟩
        · rw [u1.2.2 k c, u2.2.2 k c, v1.2.2 k c]
          exact hF.1 k h1 h3
      · have h : (t.getD 3 0).toInt = 1 := h
        show s.getD 3 0 = B.getD 3 0 ∧ 0 ≤ (B.getD 3 0).toInt
        by_cases c : a1.toInt = 3
        · have c2 : a1.toInt.toNat = 3 := by omega
          have q := u3.2.1
          rw [c2] at q
          rw [q, v3 c]
          exact ⟨rfl, b3 c⟩
        · rw [u1.2.2 3 (by omega)] at h
          rw [u3.2.2 3 (by omega), v4 c]
          exact hF.2 h
theorem q_clear {sc : pm_S} {w : pm_W} (h : pm_J w) : pm_Mt sc 38 86 2 [.ref 0] w (pm_QS sc 148 3 [.ref 59]) := by
  obtain ⟨gi, ga, hI, hM, hR, hB, hC, hK, hF, hL⟩ := h
  refine m_up (by decide) (m_weak (W_X11_clear_0_x hR hI pm_hi.rf) (fun rv w1 hq => ?_))
  obtain ⟨v, t, e, hv, g1, g2, t1, t2, t3⟩ := hq
  have hM1 : pm_IM gi (pm_uA ga 21 t) w1 := (hM.hi g2).agree (fun _ _ => rfl) (fun i hi => pm_uA_ne (by omega))
  refine ⟨hM1.c59, v, e, m_up (by decide) (m_weak (W_X12_clear_59_x (gi := gi) (ga := pm_uA ga 21 t) (show pm_Rg _ _ from hR) hM1 pm_lo.rf) (fun r2 w2 hq2 => ?_))⟩
  obtain ⟨u, A, e2, hu, f1, f2, a1, a2, a3⟩ := hq2
  have hu : u.toInt = fm_n (ga 25) := hu
  have ev : u = v := by
    refine i_eq.mpr ?_
    have q1 := hF.1 1 (by decide) (by decide)
    have q2 := hF.1 2 (by decide) (by decide)
    have q3 := hF.1 3 (by decide) (by decide)
    rw [hu, hv]
    unfold fm_n fl_n
    repeat' split
    all_goals omega
  subst ev
  refine ⟨e2, gi, pm_uA (pm_uA ga 21 t) 25 A, (g1.lo f2).agree (fun _ _ => rfl) (fun i hi => pm_uA_ne (by omega)), f1, show pm_Rg _ _ from hR, hB, hC.of (fun _ _ e => e) rfl (fun b hb => by rw [pm_uA_ne (by omega), pm_uA_ne (by omega)]), hK.of rfl rfl rfl rfl rfl rfl rfl rfl rfl rfl rfl, ⟨fun k h1 h3 => ?_, fun h => ?_⟩, hL.of rfl rfl rfl rfl rfl rfl rfl⟩
  · refine Or.inr ?_
    show (t.getD k 0).toInt = 0 ∧ (A.getD k 0).toInt < 0
    match k, h1, h3 with
    | 1, _, _ => exact ⟨t1, by omega⟩
    | 2, _, _ => exact ⟨t2, by omega⟩
    | 3, _, _ => exact ⟨t3, by omega⟩
  · have h : (t.getD 3 0).toInt = 1 := h
    omega
theorem q_weave {sc : pm_S} {w : pm_W} (h : pm_J w) : pm_Mt sc 38 87 5 [.ref 0] w (pm_QS sc 153 4 [.ref 59]) := by
  obtain ⟨gi, ga, hI, hM, hR, hB, hC, hK, hF, hL⟩ := h
  refine m_up (by decide) (m_weak (c_X_weave hR hI) (fun rv w1 hq => ?_))
  obtain ⟨v, cl, fs, os, m, e, hk, m0, hw, hoz, hv, g1, g2⟩ := hq
  have hM1 : pm_IM gi ga w1 := hM.hi g2
  refine ⟨hM1.c59, v, e, m_up (by decide) (m_weak (W_X12_weave_59_x hR hM1 pm_lo.rf) (fun r2 w2 hq2 => ?_))⟩
  obtain ⟨u, sh, A, fs2, os2, m2, e2, hk2, m02, hs, hA, hu, f1, f2⟩ := hq2
  obtain ⟨n0, n1⟩ := hR.n0
  obtain ⟨n2, n3⟩ := hR.n1
  obtain ⟨k1, k2, k3⟩ := ck.uniq hk hk2
  have em : m2.toInt = m.toInt := by omega
  have hbd := ck.bd hk
  have hcl : ∀ x y, x < (gi 0).toInt.toNat → y < (gi 1).toInt.toNat → List.getD sh (20 * y + x) 0 = List.getD cl (20 * y + x) 0 := fun x y hx hy => by
    have q := hbd.2.2 x hx
    have z := wv_eq hF (ds := ga 15) (fs := fs) (os := os) (m := m.toInt) (H := (gi 1).toInt.toNat) (x := x) (y := y) (by omega) (fun c hc => (hbd.2.1 c (by omega)).1) hy
    rw [hw x y hx hy, show (gi 1).toInt = (((gi 1).toInt.toNat : Nat) : Int) by omega, z, hs x y hx hy]
    exact wm3_congr (by omega) (k3 x hx).symm (fun c hc => (k2 c (by omega)).symm)
  have ev : u = v := by
    rw [hu, hv]
    congr 1
    exact cd_congr (fun x j h1 h2 h3 => hcl x j h1 (by omega))
  subst ev
  refine ⟨e2, pm_uI (pm_uI (pm_uI (pm_uI (pm_uI gi 10 (gi 0)) 11 (gi 1)) 9 1) 12 (gi 0)) 13 (gi 1), pm_uA (pm_uA ga 24 cl) 27 A, (g1.lo f2).agree (fun i hi => by rw [pm_uI_ne (by omega), pm_uI_ne (by omega)]) (fun i hi => pm_uA_ne (by omega)), f1.agree (fun i hi => ?_) (fun i hi => ?_), show pm_Rg _ _ from hR, hB, hC.of (fun _ _ e => e) rfl (fun b hb => by repeat rw [pm_uA_ne (by omega)]), hK.of rfl rfl rfl rfl rfl rfl rfl rfl rfl rfl rfl, hF.of rfl rfl rfl rfl rfl, ⟨fun _ => ⟨rfl, rfl, fun x y hx hy => ?_⟩, hoz⟩⟩
  · by_cases c3 : i = 13
    · subst c3; rfl
    · by_cases c2 : i = 12
      · subst c2; rfl
      · by_cases c9 : i = 9
        · subst c9; rfl
        · rw [pm_uI_ne c3, pm_uI_ne c2, pm_uI_ne c9, pm_uI_ne (by omega), pm_uI_ne (by omega), pm_uI_ne c3, pm_uI_ne c2, pm_uI_ne c9]
  · by_cases c : i = 27
    · subst c; rfl
    · rw [pm_uA_ne c, pm_uA_ne (by omega), pm_uA_ne c]
  · show List.getD A (20 * y + x) 0 = List.getD cl (20 * y + x) 0
    have hx : x < (gi 0).toInt.toNat := hx
    have hy : y < (gi 1).toInt.toNat := hy
    rw [hA x y hx hy]
    exact hcl x y hx hy
theorem q_cloth {sc : pm_S} {w : pm_W} (a1 a2 : Int32) (h : pm_J w) : pm_Mt sc 38 88 3 [.ref 0, .int a1, .int a2] w (pm_QW sc 155 3 [.ref 59, .int a1, .int a2]) := by
  obtain ⟨gi, ga, hI, hM, hR, hB, hC, hK, hF, hL⟩ := h
  refine m_up (by decide) (m_weak (W_X11_cloth_0 a1 a2 hR hI pm_hi.rf) (fun rv w1 hq => ?_))
  obtain ⟨⟨v, e, -⟩, g1, g2⟩ := hq
  have hM1 := hM.hi g2
  refine ⟨hM1.c59, v, e, m_up (by decide) (m_weak (W_X12_cloth_59 a1 a2 hR hM1 pm_lo.rf) (fun r2 w2 hq2 => ?_))⟩
  obtain ⟨⟨v2, e2, -⟩, f1, f2⟩ := hq2
  exact ⟨⟨v2, e2⟩, gi, ga, g1.lo f2, f1, hR, hB, hC, hK, hF, hL⟩
theorem q_see {sc : pm_S} {w : pm_W} (a1 a2 a3 : Int32) (h : pm_J w) : pm_Mt sc 38 89 4 [.ref 0, .int a1, .int a2, .int a3] w (pm_QS sc 156 5 [.ref 59, .int a1, .int a2, .int a3]) := by
  obtain ⟨gi, ga, hI, hM, hR, hB, hC, hK, hF, hL⟩ := h
  refine m_up (by decide) (m_weak (W_X11_see_0_x a1 a2 a3 hR hI pm_hi.rf) (fun rv w1 hq => ?_))
  obtain ⟨v, ga1, e, hv, g1, g2⟩ := hq
  have hM1 := hM.hi g2
  refine ⟨hM1.c59, v, e, m_up (by decide) (m_weak (W_X12_see_59_x a1 a2 a3 hR hM1 pm_lo.rf) (fun r2 w2 hq2 => ?_))⟩
  obtain ⟨u, ga2, e2, hu, f1, f2⟩ := hq2
  rcases hv with ⟨p1, p2, p3⟩ | ⟨p1, p2, p3, p4⟩ | ⟨p1, p2, p3, p4⟩
  · rcases hu with ⟨q1, q2, q3⟩ | ⟨q1, -⟩ | ⟨q1, -⟩
    · subst p3
      subst q3
      exact ⟨by rw [e2, q2, p2], _, _, g1.lo f2, f1, hR, hB, hC, hK, hF, hL⟩
    · exact absurd q1 p1
    · exact absurd q1 p1
  · obtain ⟨w1e, w2e, -⟩ := hL.1 p1
    rw [w1e, w2e] at hu
    rcases hu with ⟨q1, -⟩ | ⟨-, q2, q3, q4⟩ | ⟨-, q2, -⟩
    · exact absurd p1 q1
    · subst p4
      subst q4
      exact ⟨by rw [e2, q3, p3], _, _, g1.lo f2, f1, hR, hB, hC, hK, hF, hL⟩
    · exact absurd q2 p2
  · obtain ⟨w1e, w2e, w3e⟩ := hL.1 p1
    rw [w1e, w2e] at hu
    rcases hu with ⟨q1, -⟩ | ⟨-, q2, -⟩ | ⟨-, q2, q3, q4⟩
    · exact absurd p1 q1
    · exact absurd p2 q2
    · subst p4
      subst q4
      obtain ⟨xs15, -, ⟨-, l24, -⟩, -⟩ := hI.2 15 (by decide)
      obtain ⟨xs61, l61, e61, -⟩ := hM.2.1 61 (by decide) (by decide)
      rw [e61] at l61
      obtain ⟨x14, y14, ⟨⟨-, r14⟩, z14⟩, ⟨⟨-, s14⟩, w14⟩, -⟩ := hI.2 14 (by decide)
      rw [z14] at r14
      rw [w14] at s14
      have ix := w3e a1.toInt.toNat a2.toInt.toNat (by omega) (by omega)
      refine ⟨by rw [e2, q3, p3, ix], gi, pm_uA (pm_uA ga 24 ((ga 24).set (20 * a2.toInt.toNat + a1.toInt.toNat) a3)) 27 ((ga 27).set (20 * a2.toInt.toNat + a1.toInt.toNat) a3), (g1.lo f2).agree (fun _ _ => rfl) (fun i hi => pm_uA_ne (by omega)), f1.agree (fun _ _ => rfl) (fun i hi => ?_), show pm_Rg _ _ from hR, hB, hC.of (fun _ _ e => e) rfl (fun b hb => by repeat rw [pm_uA_ne (by omega)]), hK.of rfl rfl rfl rfl rfl rfl rfl rfl rfl rfl rfl, hF.of rfl rfl rfl rfl rfl, ⟨fun h => ⟨w1e, w2e, fun x y hx hy => ?_⟩, sq_Oz.set hL.2 l24 (by omega) (by omega) (by omega) (by omega)⟩⟩
      · by_cases c : i = 27
        · subst c; rfl
        · rw [pm_uA_ne c, pm_uA_ne (by omega), pm_uA_ne c]
      · show ((ga 27).set (20 * a2.toInt.toNat + a1.toInt.toNat) a3).getD (20 * y + x) 0 = ((ga 24).set (20 * a2.toInt.toNat + a1.toInt.toNat) a3).getD (20 * y + x) 0
        have hx : x < (gi 10).toInt.toNat := hx
        have hy : y < (gi 11).toInt.toNat := hy
        rw [pm_getD_set (by omega), pm_getD_set (by omega), w3e x y hx hy]
theorem q_explained {sc : pm_S} {w : pm_W} (a1 : Int32) (h : pm_J w) : pm_Mt sc 38 90 2 [.ref 0, .int a1] w (pm_QW sc 159 3 [.ref 59, .int a1]) := by
  obtain ⟨gi, ga, hI, hM, hR, hB, hC, hK, hF, hL⟩ := h
  refine m_up (by decide) (m_weak (W_X11_explained_0 a1 hR hI pm_hi.rf) (fun rv w1 hq => ?_))
  obtain ⟨⟨v, e, -⟩, g1, g2⟩ := hq
  have hM1 := hM.hi g2
  refine ⟨hM1.c59, v, e, m_up (by decide) (m_weak (W_X12_explained_59 a1 hR hM1 pm_lo.rf) (fun r2 w2 hq2 => ?_))⟩
  obtain ⟨⟨v2, e2, -⟩, f1, f2⟩ := hq2
  exact ⟨⟨v2, e2⟩, gi, ga, g1.lo f2, f1, hR, hB, hC, hK, hF, hL⟩
theorem q_set {sc : pm_S} {w : pm_W} (a1 a2 : Int32) (h : pm_J w) : pm_Mt sc 38 91 4 [.ref 0, .int a1, .int a2] w (pm_QS sc 160 4 [.ref 59, .int a1, .int a2]) := by
  obtain ⟨gi, ga, hI, hM, hR, hB, hC, hK, hF, hL⟩ := h
  refine m_up (by decide) (m_weak (c_X_set a1 a2 hR hI) (fun rv w1 hq => ?_))
  obtain ⟨e, g1, g2⟩ := hq
  have hM1 := hM.hi g2
  refine ⟨hM1.c59, _, e, m_up (by decide) (m_weak (c_M_set a1 a2 hR hM1) (fun r2 w2 hq2 => ?_))⟩
  obtain ⟨e2, f1, f2⟩ := hq2
  refine ⟨e2, _, _, g1.lo f2, f1, rg_set hR a1 a2, ?_, ?_, ?_, fj_set hF a1 a2, cj_set hL a1 a2⟩
  · unfold sp_set
    repeat' split
    all_goals exact hB
  · unfold sp_set
    repeat' split
    all_goals first | exact hC | exact hC.of (fun _ _ e => e) rfl (fun b hb => by dsimp only; repeat rw [pm_uA_ne (by omega)])
  · unfold sp_set
    repeat' split
    all_goals first | exact hK | exact hK.of rfl rfl rfl rfl rfl rfl rfl rfl rfl rfl rfl
theorem q_order {sc : pm_S} {w : pm_W} (a1 a2 a3 : Int32) (h : pm_J w) : pm_Mt sc 38 92 4 [.ref 0, .int a1, .int a2, .int a3] w (pm_QS sc 161 4 [.ref 59, .int a1, .int a2, .int a3]) := by
  obtain ⟨gi, ga, hI, hM, hR, hB, hC, hK, hF, hL⟩ := h
  refine m_up (by decide) (m_weak (c_X_order a1 a2 a3 hR hI) (fun rv w1 hq => ?_))
  obtain ⟨e, g1, g2⟩ := hq
  have hM1 := hM.hi g2
  refine ⟨hM1.c59, _, e, m_up (by decide) (m_weak (c_M_order a1 a2 a3 hR hM1) (fun r2 w2 hq2 => ?_))⟩
  obtain ⟨e2, f1, f2⟩ := hq2
  refine ⟨e2, _, _, g1.lo f2, f1, rg_order hR a1 a2 a3, ?_, ?_, ?_, fj_order hF a1 a2 a3, cj_order hL a1 a2 a3⟩
  · unfold sp_order
    repeat' split
    all_goals exact hB
  · unfold sp_order
    repeat' split
    all_goals first | exact hC | exact hC.of (fun _ _ e => e) rfl (fun b hb => by dsimp only; repeat rw [pm_uA_ne (by omega)])
  · unfold sp_order
    repeat' split
    all_goals first | exact hK | exact hK.of rfl rfl rfl rfl rfl rfl rfl rfl rfl rfl rfl
theorem q_best {sc : pm_S} {w : pm_W} (h : pm_J w) : pm_Mt sc 38 93 1 [.ref 0] w (pm_QW sc 166 1 [.ref 59]) := by
  obtain ⟨gi, ga, hI, hM, hR, hB, hC, hK, hF, hL⟩ := h
  refine m_up (by decide) (m_weak (W_X11_best_0  hR hI pm_hi.rf) (fun rv w1 hq => ?_))
  obtain ⟨⟨v, e, -⟩, g1, g2⟩ := hq
  have hM1 := hM.hi g2
  refine ⟨hM1.c59, v, e, m_up (by decide) (m_weak (W_X12_best_59  hR hM1 pm_lo.rf) (fun r2 w2 hq2 => ?_))⟩
  obtain ⟨⟨v2, e2, -⟩, f1, f2⟩ := hq2
  exact ⟨⟨v2, e2⟩, gi, ga, g1.lo f2, f1, hR, hB, hC, hK, hF, hL⟩
theorem q_bestAt {sc : pm_S} {w : pm_W} (a1 : Int32) (h : pm_J w) : pm_Mt sc 38 94 2 [.ref 0, .int a1] w (pm_QW sc 167 3 [.ref 59, .int a1]) := by
  obtain ⟨gi, ga, hI, hM, hR, hB, hC, hK, hF, hL⟩ := h
  refine m_up (by decide) (m_weak (W_X11_bestAt_0 a1 hR hI pm_hi.rf) (fun rv w1 hq => ?_))
  obtain ⟨⟨v, e, -⟩, g1, g2⟩ := hq
  have hM1 := hM.hi g2
  refine ⟨hM1.c59, v, e, m_up (by decide) (m_weak (W_X12_bestAt_59 a1 hR hM1 pm_lo.rf) (fun r2 w2 hq2 => ?_))⟩
  obtain ⟨⟨v2, e2, -⟩, f1, f2⟩ := hq2
  exact ⟨⟨v2, e2⟩, gi, ga, g1.lo f2, f1, hR, hB, hC, hK, hF, hL⟩
theorem q_work {sc : pm_S} {w : pm_W} (a1 : Int32) (h : pm_J w) : pm_Mt sc 38 95 2 [.ref 0, .int a1] w (pm_QS sc 169 4 [.ref 59, .int a1]) := by
  obtain ⟨gi, ga, hI, hM, hR, hB, hC, hK, hF, hL⟩ := h
  refine m_up (by decide) (m_weak (c_X_work a1 hR hI) (fun rv w1 hq => ?_))
  obtain ⟨e, g1, g2⟩ := hq
  have hM1 := hM.hi g2
  refine ⟨hM1.c59, _, e, m_up (by decide) (m_weak (c_M_work a1 hR hM1) (fun r2 w2 hq2 => ?_))⟩
  obtain ⟨e2, f1, f2⟩ := hq2
  refine ⟨e2, _, _, g1.lo f2, f1, rg_work hR a1, ?_, ?_, ?_, fj_work hF a1, cj_work hL a1⟩
  · unfold sp_work
    repeat' split
    all_goals exact hB
  · unfold sp_work
    repeat' split
    all_goals first | exact hC | exact hC.of (fun _ _ e => e) rfl (fun b hb => by dsimp only; repeat rw [pm_uA_ne (by omega)])
  · unfold sp_work
    repeat' split
    all_goals first | exact hK | exact hK.of rfl rfl rfl rfl rfl rfl rfl rfl rfl rfl rfl
theorem q_days {sc : pm_S} {w : pm_W} (a1 : Int32) (h : pm_J w) : pm_Mt sc 38 96 2 [.ref 0, .int a1] w (pm_QS sc 170 2 [.ref 59, .int a1]) := by
  obtain ⟨gi, ga, hI, hM, hR, hB, hC, hK, hF, hL⟩ := h
  refine m_up (by decide) (m_weak (c_X_days a1 hR hI) (fun rv w1 hq => ?_))
  obtain ⟨e, g1, g2⟩ := hq
  have hM1 := hM.hi g2
  refine ⟨hM1.c59, _, e, m_up (by decide) (m_weak (c_M_days a1 hR hM1) (fun r2 w2 hq2 => ?_))⟩
  obtain ⟨e2, f1, f2⟩ := hq2
  refine ⟨e2, _, _, g1.lo f2, f1, rg_days hR a1, ?_, ?_, ?_, fj_days hF a1, cj_days hL a1⟩
  · unfold sp_days
    repeat' split
    all_goals exact hB
  · unfold sp_days
    repeat' split
    all_goals first | exact hC | exact hC.of (fun _ _ e => e) rfl (fun b hb => by dsimp only; repeat rw [pm_uA_ne (by omega)])
  · unfold sp_days
    repeat' split
    all_goals first | exact hK | exact hK.of rfl rfl rfl rfl rfl rfl rfl rfl rfl rfl rfl
theorem q_law {sc : pm_S} {w : pm_W} (a1 a2 a3 : Int32) (h : pm_J w) : pm_Mt sc 38 97 4 [.ref 0, .int a1, .int a2, .int a3] w (pm_QS sc 171 4 [.ref 59, .int a1, .int a2, .int a3]) := by
  obtain ⟨gi, ga, hI, hM, hR, hB, hC, hK, hF, hL⟩ := h
  refine m_up (by decide) (m_weak (c_X_law a1 a2 a3 hR hI) (fun rv w1 hq => ?_))
  obtain ⟨e, g1, g2⟩ := hq
  have hM1 := hM.hi g2
  refine ⟨hM1.c59, _, e, m_up (by decide) (m_weak (c_M_law a1 a2 a3 hR hM1) (fun r2 w2 hq2 => ?_))⟩
  obtain ⟨e2, f1, f2⟩ := hq2
  refine ⟨e2, _, _, g1.lo f2, f1, rg_law hR a1 a2 a3, ?_, ?_, ?_, fj_law hF a1 a2 a3, cj_law hL a1 a2 a3⟩
  · unfold sp_law
    repeat' split
    all_goals exact hB
  · unfold sp_law
    repeat' split
    all_goals first | exact hC | exact hC.of (fun _ _ e => e) rfl (fun b hb => by dsimp only; repeat rw [pm_uA_ne (by omega)])
  · unfold sp_law
    repeat' split
    all_goals first | exact hK | exact hK.of rfl rfl rfl rfl rfl rfl rfl rfl rfl rfl rfl
theorem q_silk {sc : pm_S} {w : pm_W} (a1 a2 a3 a4 : Int32) (h : pm_J w) : pm_Mt sc 38 98 6 [.ref 0, .int a1, .int a2, .int a3, .int a4] w (pm_QS sc 172 7 [.ref 59, .int a1, .int a2, .int a3, .int a4]) := by
  obtain ⟨gi, ga, hI, hM, hR, hB, hC, hK, hF, hL⟩ := h
  refine m_up (by decide) (m_weak (c_X_silk a1 a2 a3 a4 hR hI) (fun rv w1 hq => ?_))
  obtain ⟨e, g1, g2⟩ := hq
  have hM1 := hM.hi g2
  refine ⟨hM1.c59, _, e, m_up (by decide) (m_weak (c_M_silk a1 a2 a3 a4 hR hM1) (fun r2 w2 hq2 => ?_))⟩
  obtain ⟨e2, f1, f2⟩ := hq2
  refine ⟨e2, _, _, g1.lo f2, f1, rg_silk hR a1 a2 a3 a4, ?_, ?_, ?_, fj_silk hF a1 a2 a3 a4, cj_silk hL a1 a2 a3 a4⟩
  · unfold sp_silk
    repeat' split
    all_goals exact hB
  · unfold sp_silk
    repeat' split
    all_goals first | exact hC | exact hC.of (fun _ _ e => e) rfl (fun b hb => by dsimp only; repeat rw [pm_uA_ne (by omega)])
  · unfold sp_silk
    repeat' split
    all_goals first | exact hK | exact hK.of rfl rfl rfl rfl rfl rfl rfl rfl rfl rfl rfl
theorem q_account {sc : pm_S} {w : pm_W} (a1 a2 : Int32) (h : pm_J w) : pm_Mt sc 38 99 3 [.ref 0, .int a1, .int a2] w (pm_QS sc 173 3 [.ref 59, .int a1, .int a2]) := by
  obtain ⟨gi, ga, hI, hM, hR, hB, hC, hK, hF, hL⟩ := h
  refine m_up (by decide) (m_weak (c_X_account a1 a2 hR hI) (fun rv w1 hq => ?_))
  obtain ⟨e, g1, g2⟩ := hq
  have hM1 := hM.hi g2
  refine ⟨hM1.c59, _, e, m_up (by decide) (m_weak (c_M_account a1 a2 hR hM1) (fun r2 w2 hq2 => ?_))⟩
  obtain ⟨e2, f1, f2⟩ := hq2
  have hg := ga_account (gi := gi) (ga := ga) a1 a2
  refine ⟨e2, _, _, g1.lo f2, f1, ?_, ?_, ?_, ?_, ?_, ?_⟩
  · rw [hg]; exact hR
  · rw [hg]; exact hB
  · rw [hg]; exact hC
  · rw [hg]; exact hK
  · rw [hg]; exact hF
  · rw [hg]; exact hL
theorem q_warp {sc : pm_S} {w : pm_W} (a1 a2 : Int32) (h : pm_J w) : pm_Mt sc 38 100 3 [.ref 0, .int a1, .int a2] w (pm_QS sc 175 3 [.ref 59, .int a1, .int a2]) := by
  obtain ⟨gi, ga, hI, hM, hR, hB, hC, hK, hF, hL⟩ := h
  refine m_up (by decide) (m_weak (c_X_warp a1 a2 hR hI) (fun rv w1 hq => ?_))
  obtain ⟨e, g1, g2⟩ := hq
  have hM1 := hM.hi g2
  refine ⟨hM1.c59, _, e, m_up (by decide) (m_weak (c_M_warp a1 a2 hR hM1) (fun r2 w2 hq2 => ?_))⟩
  obtain ⟨e2, f1, f2⟩ := hq2
  refine ⟨e2, _, _, g1.lo f2, f1, rg_warp hR a1 a2, bg_warp hR hB a1 a2, cr_warp hR hC a1 a2, k_warp hR hK a1 a2, fj_warp hF a1 a2, cj_warp hL a1 a2⟩
theorem q_cards {sc : pm_S} {w : pm_W} (a1 : Int32) (h : pm_J w) : pm_Mt sc 38 101 2 [.ref 0, .int a1] w (pm_QS sc 176 3 [.ref 59, .int a1]) := by
  obtain ⟨gi, ga, hI, hM, hR, hB, hC, hK, hF, hL⟩ := h
  refine m_up (by decide) (m_weak (c_X_cards a1 hR hI) (fun rv w1 hq => ?_))
  obtain ⟨e, g1, g2⟩ := hq
  have hM1 := hM.hi g2
  refine ⟨hM1.c59, _, e, m_up (by decide) (m_weak (c_M_cards a1 hR hM1) (fun r2 w2 hq2 => ?_))⟩
  obtain ⟨e2, f1, f2⟩ := hq2
  refine ⟨e2, _, _, g1.lo f2, f1, rg_cards hR a1, bg_cards hR hB a1, cr_cards hR hC (hI.2 2 (by decide)).1 (hM.2.1 78 (by decide) (by decide)).1 a1, k_cards hR hK a1, fj_cards hF a1, cj_cards hL a1⟩
theorem q_hang {sc : pm_S} {w : pm_W} (a1 : Int32) (h : pm_J w) : pm_Mt sc 38 102 3 [.ref 0, .int a1] w (pm_QS sc 178 4 [.ref 59, .int a1]) := by
  obtain ⟨gi, ga, hI, hM, hR, hB, hC, hK, hF, hL⟩ := h
  refine m_up (by decide) (m_weak (c_X_hang a1 hR hI) (fun rv w1 hq => ?_))
  obtain ⟨e, g1, g2⟩ := hq
  have hM1 := hM.hi g2
  refine ⟨hM1.c59, _, e, m_up (by decide) (m_weak (c_M_hang a1 hR hM1 hC (fun j hj => (hI.rows hj).1)) (fun r2 w2 hq2 => ?_))⟩
  obtain ⟨e2, f1, f2⟩ := hq2
  refine ⟨e2, _, _, g1.lo f2, f1, rg_hang hR a1, ?_, cr_hang hC a1, k_hang hK a1, fj_hang hF a1, cj_hang hL a1⟩
  · unfold sp_hang
    repeat' split
    all_goals exact hB
theorem q_cut {sc : pm_S} {w : pm_W} (a1 a2 : Int32) (h : pm_J w) : pm_Mt sc 38 103 4 [.ref 0, .int a1, .int a2] w (pm_QS sc 179 4 [.ref 59, .int a1, .int a2]) := by
  obtain ⟨gi, ga, hI, hM, hR, hB, hC, hK, hF, hL⟩ := h
  refine m_up (by decide) (m_weak (c_X_cut a1 a2 hR hI) (fun rv w1 hq => ?_))
  obtain ⟨e, g1, g2⟩ := hq
  have hM1 := hM.hi g2
  refine ⟨hM1.c59, _, e, m_up (by decide) (m_weak (c_M_cut a1 a2 hR hM1) (fun r2 w2 hq2 => ?_))⟩
  obtain ⟨e2, f1, f2⟩ := hq2
  refine ⟨e2, _, _, g1.lo f2, f1, rg_cut hR a1 a2, bg_cut hR hB a1 a2, cr_cut hR hC a1 a2, k_cut hR hK a1 a2, fj_cut hF a1 a2, cj_cut hL a1 a2⟩
theorem q_join {sc : pm_S} {w : pm_W} (a1 a2 : Int32) (h : pm_J w) : pm_Mt sc 38 104 6 [.ref 0, .int a1, .int a2] w (pm_QS sc 180 3 [.ref 59, .int a1, .int a2]) := by
  obtain ⟨gi, ga, hI, hM, hR, hB, hC, hK, hF, hL⟩ := h
  refine m_up (by decide) (m_weak (c_X_join a1 a2 hR hI hB) (fun rv w1 hq => ?_))
  obtain ⟨e, g1, g2⟩ := hq
  have hM1 := hM.hi g2
  refine ⟨hM1.c59, _, e, m_up (by decide) (m_weak (c_M_join a1 a2 hR hM1) (fun r2 w2 hq2 => ?_))⟩
  obtain ⟨e2, f1, f2⟩ := hq2
  refine ⟨e2, _, _, g1.lo f2, f1, rg_join hR a1 a2, bg_join hR hB a1 a2, cr_join hR hC a1 a2, k_join hR hK a1 a2, fj_join hF a1 a2, cj_join hL a1 a2⟩
theorem q_beamOf {sc : pm_S} {w : pm_W} (a1 a2 : Int32) (h : pm_J w) : pm_Mt sc 38 105 3 [.ref 0, .int a1, .int a2] w (pm_QW sc 181 5 [.ref 59, .int a1, .int a2]) := by
  obtain ⟨gi, ga, hI, hM, hR, hB, hC, hK, hF, hL⟩ := h
  refine m_up (by decide) (m_weak (c_X_beamOf a1 a2 hR hI) (fun rv w1 hq => ?_))
  obtain ⟨⟨v, e⟩, g1, g2⟩ := hq
  have hM1 := hM.hi g2
  refine ⟨hM1.c59, v, e, m_up (by decide) (m_weak (c_M_beamOf a1 a2 hR hM1) (fun r2 w2 hq2 => ?_))⟩
  obtain ⟨⟨v2, e2⟩, f1, f2⟩ := hq2
  exact ⟨⟨v2, e2⟩, gi, ga, g1.lo f2, f1, hR, hB, hC, hK, hF, hL⟩
theorem q_orderOf {sc : pm_S} {w : pm_W} (a1 a2 : Int32) (h : pm_J w) : pm_Mt sc 38 106 3 [.ref 0, .int a1, .int a2] w (pm_QS sc 182 3 [.ref 59, .int a1, .int a2]) := by
  obtain ⟨gi, ga, hI, hM, hR, hB, hC, hK, hF, hL⟩ := h
  refine m_up (by decide) (m_weak (c_X_orderOf a1 a2 hR hI) (fun rv w1 hq => ?_))
  obtain ⟨e, g1, g2⟩ := hq
  have hM1 := hM.hi g2
  refine ⟨hM1.c59, _, e, m_up (by decide) (m_weak (c_M_orderOf a1 a2 hR hM1) (fun r2 w2 hq2 => ?_))⟩
  obtain ⟨e2, f1, f2⟩ := hq2
  have hg := ga_orderOf (gi := gi) (ga := ga) a1 a2
  refine ⟨e2, _, _, g1.lo f2, f1, ?_, ?_, ?_, ?_, ?_, ?_⟩
  · rw [hg]; exact hR
  · rw [hg]; exact hB
  · rw [hg]; exact hC
  · rw [hg]; exact hK
  · rw [hg]; exact hF
  · rw [hg]; exact hL
theorem q_count {sc : pm_S} {w : pm_W} (a1 : Int32) (h : pm_J w) : pm_Mt sc 38 107 2 [.ref 0, .int a1] w (pm_QW sc 183 4 [.ref 59, .int a1]) := by
  obtain ⟨gi, ga, hI, hM, hR, hB, hC, hK, hF, hL⟩ := h
  refine m_up (by decide) (m_weak (W_X11_count_0 a1 hR hI pm_hi.rf) (fun rv w1 hq => ?_))
  obtain ⟨⟨v, e, -⟩, g1, g2⟩ := hq
  have hM1 := hM.hi g2
  refine ⟨hM1.c59, v, e, m_up (by decide) (m_weak (W_X12_count_59 a1 hR hM1 pm_lo.rf) (fun r2 w2 hq2 => ?_))⟩
  obtain ⟨⟨v2, e2, -⟩, f1, f2⟩ := hq2
  exact ⟨⟨v2, e2⟩, gi, ga, g1.lo f2, f1, hR, hB, hC, hK, hF, hL⟩

