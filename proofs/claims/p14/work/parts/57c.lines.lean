noncomputable def pm_colf (ds : List Int32) (x : Nat) : Nat → Nat := fun y => (ds.getD (20 * y + x) 0).toInt.toNat
theorem sq_cl.col {ds : List Int32} (h : sq_cl ds) (x i : Nat) : pm_colf ds x i < 4 := by
  have := h.at (20 * i + x)
  unfold pm_colf
  omega
theorem W_X10_colourAt_1_x {sc : pm_S} {w : pm_W} {gi : Nat → Int32} {ga : Nat → List Int32} (x y : Int32) (p0 : 0 ≤ x.toInt) (p1 : x.toInt < 20) (p2 : 0 ≤ y.toInt) (p3 : y.toInt < 20) (hR : pm_Rg gi ga) (hI : pm_IX gi ga w) : pm_Mt sc 0 63 3 [.ref 1, .int x, .int y] w (fun rv w' => pm_wI (fun v => v = (ga 15).getD (20 * y.toInt.toNat + x.toInt.toNat) 0 ∧ 0 ≤ v.toInt ∧ v.toInt ≤ 3) rv ∧ w = w') := by
  have h1 : _ = some _ := hI.2 1 (by decide)
  obtain ⟨l2, r2, h2⟩ := hI.2 2 (by decide)
  have hcl : sq_cl (ga 15) := ⟨l2, r2⟩
  refine m_weak (c_colourAt h1 h2 pm_enc_len x y p2 p3) (fun rv w' hq => ?_)
  obtain ⟨e1, e2⟩ := hq
  rw [pm_col_enc hcl p0 p1 p2 p3] at e2
  exact ⟨⟨_, e2, rfl, hcl.at _⟩, e1⟩
