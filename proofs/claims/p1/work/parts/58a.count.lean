set_option maxRecDepth 100000 in
theorem q_count0 {sc : pm_S} (a1 : Int32) : pm_Mt sc 38 107 2 [.ref 0, .int a1] pm_w2 (pm_QS sc 183 4 [.ref 59, .int a1]) := by
  have hz : ∀ i, ((List.replicate 7 (0 : Int32)).getD i 0).toInt = 0 := fun i => by
    match i with
    | 0 => rfl
    | 1 => rfl
    | 2 => rfl
    | 3 => rfl
    | 4 => rfl
    | 5 => rfl
    | 6 => rfl
    | n + 7 => rfl
  refine m_up (by decide) (m_weak (W_X11_count_0_p a1 (List.replicate 7 0) (show (pm_gi0 7).toInt = 0 from rfl) (show pm_w2[58]? = some (.inl (0, .inl (List.replicate 7 0))) from rfl) rfl pm_Rg0 pm_IX0 pm_hi.rf hz (by decide) (by decide)) (fun rv w1 hq => ?_))
  obtain ⟨⟨v, e, hv⟩, g1, g2⟩ := hq
  have hM1 := pm_IM0.hi g2
  refine ⟨hM1.c59, v, e, m_up (by decide) (m_weak (W_X12_count_59_p a1 (0) (0) (0) (0) (0) (0) (0) (0) (List.replicate 7 0) (by decide) (by decide) (by decide) (by decide) (by decide) (by decide) (by decide) (by decide) (by decide) (by decide) (by decide) ((g2.1.2 59 (by decide)).trans rfl) ((g2.1.2 79 (by decide)).trans rfl) rfl pm_Rg0 hM1 pm_lo.rf rfl hz (by decide)) (fun r2 w2 hq2 => ?_))⟩
  obtain ⟨⟨u, e2, hu⟩, f1, f2⟩ := hq2
  have ev : u = v := i_eq.mpr (ct_P.uniq hu hv)
  subst ev
  exact ⟨e2, pm_gi0, pm_ga0, g1.lo f2, f1, pm_Rg0, pm_Bg0, pm_Cr0, pm_K0, pm_Fj0, pm_Cj0, (pm_BX0.kn g2.2).lo f2⟩

