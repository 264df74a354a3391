set_option maxRecDepth 100000 in
theorem l_case0 {L p : Nat} {xs : Nat → Int32} {w : pm_W} {fs : List Value} (hp : p + 5 ≤ L) (hL : L ≤ 2560) (hJ : pm_J w) (h0 : w[0]? = some (.inr (11, fs))) (k : ∀ w1, pm_J w1 → pm_V (some (L, xs)) 40 186 1303 [.retAddr 0, .ref 0, .ref 59, .int (nI p)] [] w1 (fun rv _ => rv = some (.int 1))) : pm_V (some (L, xs)) 40 186 196 [.retAddr 0, .ref 0, .ref 59, .int (nI p)] [] w (fun rv _ => rv = some (.int 1)) := by
  refine v_aload_n rfl rfl ?_
  refine v_saload_n rfl rfl ?_
  refine v_iload_n rfl rfl ?_
  refine v_iconst (v := 1) rfl (by decide) ?_
  refine v_iadd rfl ?_
  refine v_sld (n := p + 1) rfl (s_ix (by omega) rfl (by omega)) (by omega) ?_
  refine v_saload_n rfl rfl ?_
  refine v_iload_n rfl rfl ?_
  refine v_iconst (v := 2) rfl (by decide) ?_
  refine v_iadd rfl ?_
  refine v_sld (n := p + 2) rfl (s_ix (by omega) rfl (by omega)) (by omega) ?_
  refine v_callV rfl (q_paper (xs (p + 1)) (xs (p + 2)) hJ) rfl rfl h0 rfl rfl (by decide) (fun rv w1 hq => ?_)
  obtain ⟨⟨fs1, h59⟩, v, rfl, hm⟩ := hq
  refine v_pop rfl rfl ?_
  refine v_aload_n rfl rfl ?_
  refine v_saload_n rfl rfl ?_
  refine v_iload_n rfl rfl ?_
  refine v_iconst (v := 1) rfl (by decide) ?_
  refine v_iadd rfl ?_
  refine v_sld (n := p + 1) rfl (s_ix (by omega) rfl (by omega)) (by omega) ?_
  refine v_saload_n rfl rfl ?_
  refine v_iload_n rfl rfl ?_
  refine v_iconst (v := 2) rfl (by decide) ?_
  refine v_iadd rfl ?_
  refine v_sld (n := p + 2) rfl (s_ix (by omega) rfl (by omega)) (by omega) ?_
  refine v_callV rfl hm rfl rfl h59 rfl rfl (by decide) (fun r2 w2 hq2 => ?_)
  obtain ⟨rfl, hJ2⟩ := hq2
  refine v_pop rfl rfl ?_
  refine v_goto rfl ?_
  exact k w2 hJ2
set_option maxRecDepth 100000 in
theorem l_case1 {L p : Nat} {xs : Nat → Int32} {w : pm_W} {fs : List Value} (hp : p + 5 ≤ L) (hL : L ≤ 2560) (hJ : pm_J w) (h0 : w[0]? = some (.inr (11, fs))) (k : ∀ w1, pm_J w1 → pm_V (some (L, xs)) 40 186 1303 [.retAddr 0, .ref 0, .ref 59, .int (nI p)] [] w1 (fun rv _ => rv = some (.int 1))) : pm_V (some (L, xs)) 40 186 229 [.retAddr 0, .ref 0, .ref 59, .int (nI p)] [] w (fun rv _ => rv = some (.int 1)) := by
  refine v_aload_n rfl rfl ?_
  refine v_saload_n rfl rfl ?_
  refine v_iload_n rfl rfl ?_
  refine v_iconst (v := 1) rfl (by decide) ?_
  refine v_iadd rfl ?_
  refine v_sld (n := p + 1) rfl (s_ix (by omega) rfl (by omega)) (by omega) ?_
  refine v_saload_n rfl rfl ?_
  refine v_iload_n rfl rfl ?_
  refine v_iconst (v := 2) rfl (by decide) ?_
  refine v_iadd rfl ?_
  refine v_sld (n := p + 2) rfl (s_ix (by omega) rfl (by omega)) (by omega) ?_
  refine v_saload_n rfl rfl ?_
  refine v_iload_n rfl rfl ?_
  refine v_iconst (v := 3) rfl (by decide) ?_
  refine v_iadd rfl ?_
  refine v_sld (n := p + 3) rfl (s_ix (by omega) rfl (by omega)) (by omega) ?_
  refine v_callV rfl (q_square (xs (p + 1)) (xs (p + 2)) (xs (p + 3)) hJ) rfl rfl h0 rfl rfl (by decide) (fun rv w1 hq => ?_)
  obtain ⟨⟨fs1, h59⟩, v, rfl, hm⟩ := hq
  refine v_pop rfl rfl ?_
  refine v_aload_n rfl rfl ?_
  refine v_saload_n rfl rfl ?_
  refine v_iload_n rfl rfl ?_
  refine v_iconst (v := 1) rfl (by decide) ?_
  refine v_iadd rfl ?_
  refine v_sld (n := p + 1) rfl (s_ix (by omega) rfl (by omega)) (by omega) ?_
  refine v_saload_n rfl rfl ?_
  refine v_iload_n rfl rfl ?_
  refine v_iconst (v := 2) rfl (by decide) ?_
  refine v_iadd rfl ?_
  refine v_sld (n := p + 2) rfl (s_ix (by omega) rfl (by omega)) (by omega) ?_
  refine v_saload_n rfl rfl ?_
  refine v_iload_n rfl rfl ?_
  refine v_iconst (v := 3) rfl (by decide) ?_
  refine v_iadd rfl ?_
  refine v_sld (n := p + 3) rfl (s_ix (by omega) rfl (by omega)) (by omega) ?_
  refine v_callV rfl hm rfl rfl h59 rfl rfl (by decide) (fun r2 w2 hq2 => ?_)
  obtain ⟨rfl, hJ2⟩ := hq2
  refine v_pop rfl rfl ?_
  refine v_goto rfl ?_
  exact k w2 hJ2
set_option maxRecDepth 100000 in
theorem l_case2 {L p : Nat} {xs : Nat → Int32} {w : pm_W} {fs : List Value} (hp : p + 5 ≤ L) (hL : L ≤ 2560) (hJ : pm_J w) (h0 : w[0]? = some (.inr (11, fs))) (k : ∀ w1, pm_J w1 → pm_V (some (L, xs)) 40 186 1303 [.retAddr 0, .ref 0, .ref 59, .int (nI p)] [] w1 (fun rv _ => rv = some (.int 1))) : pm_V (some (L, xs)) 40 186 272 [.retAddr 0, .ref 0, .ref 59, .int (nI p)] [] w (fun rv _ => rv = some (.int 1)) := by
  refine v_aload_n rfl rfl ?_
  refine v_saload_n rfl rfl ?_
  refine v_iload_n rfl rfl ?_
  refine v_iconst (v := 1) rfl (by decide) ?_
  refine v_iadd rfl ?_
  refine v_sld (n := p + 1) rfl (s_ix (by omega) rfl (by omega)) (by omega) ?_
  refine v_saload_n rfl rfl ?_
  refine v_iload_n rfl rfl ?_
  refine v_iconst (v := 2) rfl (by decide) ?_
  refine v_iadd rfl ?_
  refine v_sld (n := p + 2) rfl (s_ix (by omega) rfl (by omega)) (by omega) ?_
  refine v_saload_n rfl rfl ?_
  refine v_iload_n rfl rfl ?_
  refine v_iconst (v := 3) rfl (by decide) ?_
  refine v_iadd rfl ?_
  refine v_sld (n := p + 3) rfl (s_ix (by omega) rfl (by omega)) (by omega) ?_
  refine v_saload_n rfl rfl ?_
  refine v_iload_n rfl rfl ?_
  refine v_iconst (v := 4) rfl (by decide) ?_
  refine v_iadd rfl ?_
  refine v_sld (n := p + 4) rfl (s_ix (by omega) rfl (by omega)) (by omega) ?_
  refine v_callV rfl (q_fill (xs (p + 1)) (xs (p + 2)) (xs (p + 3)) (xs (p + 4)) hJ) rfl rfl h0 rfl rfl (by decide) (fun rv w1 hq => ?_)
  obtain ⟨⟨fs1, h59⟩, v, rfl, hm⟩ := hq
  refine v_pop rfl rfl ?_
  refine v_aload_n rfl rfl ?_
  refine v_saload_n rfl rfl ?_
  refine v_iload_n rfl rfl ?_
  refine v_iconst (v := 1) rfl (by decide) ?_
  refine v_iadd rfl ?_
  refine v_sld (n := p + 1) rfl (s_ix (by omega) rfl (by omega)) (by omega) ?_
  refine v_saload_n rfl rfl ?_
  refine v_iload_n rfl rfl ?_
  refine v_iconst (v := 2) rfl (by decide) ?_
  refine v_iadd rfl ?_
  refine v_sld (n := p + 2) rfl (s_ix (by omega) rfl (by omega)) (by omega) ?_
  refine v_saload_n rfl rfl ?_
  refine v_iload_n rfl rfl ?_
  refine v_iconst (v := 3) rfl (by decide) ?_
  refine v_iadd rfl ?_
  refine v_sld (n := p + 3) rfl (s_ix (by omega) rfl (by omega)) (by omega) ?_
  refine v_saload_n rfl rfl ?_
  refine v_iload_n rfl rfl ?_
  refine v_iconst (v := 4) rfl (by decide) ?_
  refine v_iadd rfl ?_
  refine v_sld (n := p + 4) rfl (s_ix (by omega) rfl (by omega)) (by omega) ?_
  refine v_callV rfl hm rfl rfl h59 rfl rfl (by decide) (fun r2 w2 hq2 => ?_)
  obtain ⟨rfl, hJ2⟩ := hq2
  refine v_pop rfl rfl ?_
  refine v_goto rfl ?_
  exact k w2 hJ2
set_option maxRecDepth 100000 in
theorem l_case3 {L p : Nat} {xs : Nat → Int32} {w : pm_W} {fs : List Value} (hp : p + 5 ≤ L) (hL : L ≤ 2560) (hJ : pm_J w) (h0 : w[0]? = some (.inr (11, fs))) (k : ∀ w1, pm_J w1 → pm_V (some (L, xs)) 40 186 1303 [.retAddr 0, .ref 0, .ref 59, .int (nI p)] [] w1 (fun rv _ => rv = some (.int 1))) : pm_V (some (L, xs)) 40 186 325 [.retAddr 0, .ref 0, .ref 59, .int (nI p)] [] w (fun rv _ => rv = some (.int 1)) := by
  refine v_aload_n rfl rfl ?_
  refine v_saload_n rfl rfl ?_
  refine v_iload_n rfl rfl ?_
  refine v_iconst (v := 1) rfl (by decide) ?_
  refine v_iadd rfl ?_
  refine v_sld (n := p + 1) rfl (s_ix (by omega) rfl (by omega)) (by omega) ?_
  refine v_saload_n rfl rfl ?_
  refine v_iload_n rfl rfl ?_
  refine v_iconst (v := 2) rfl (by decide) ?_
  refine v_iadd rfl ?_
  refine v_sld (n := p + 2) rfl (s_ix (by omega) rfl (by omega)) (by omega) ?_
  refine v_callV rfl (q_at (xs (p + 1)) (xs (p + 2)) hJ) rfl rfl h0 rfl rfl (by decide) (fun rv w1 hq => ?_)
  obtain ⟨⟨fs1, h59⟩, v, rfl, hm⟩ := hq
  refine v_pop rfl rfl ?_
  refine v_aload_n rfl rfl ?_
  refine v_saload_n rfl rfl ?_
  refine v_iload_n rfl rfl ?_
  refine v_iconst (v := 1) rfl (by decide) ?_
  refine v_iadd rfl ?_
  refine v_sld (n := p + 1) rfl (s_ix (by omega) rfl (by omega)) (by omega) ?_
  refine v_saload_n rfl rfl ?_
  refine v_iload_n rfl rfl ?_
  refine v_iconst (v := 2) rfl (by decide) ?_
  refine v_iadd rfl ?_
  refine v_sld (n := p + 2) rfl (s_ix (by omega) rfl (by omega)) (by omega) ?_
  refine v_callV rfl hm rfl rfl h59 rfl rfl (by decide) (fun r2 w2 hq2 => ?_)
  obtain ⟨rfl, hJ2⟩ := hq2
  refine v_pop rfl rfl ?_
  refine v_goto rfl ?_
  exact k w2 hJ2
set_option maxRecDepth 100000 in
theorem l_case4 {L p : Nat} {xs : Nat → Int32} {w : pm_W} {fs : List Value} (hp : p + 5 ≤ L) (hL : L ≤ 2560) (hJ : pm_J w) (h0 : w[0]? = some (.inr (11, fs))) (k : ∀ w1, pm_J w1 → pm_V (some (L, xs)) 40 186 1303 [.retAddr 0, .ref 0, .ref 59, .int (nI p)] [] w1 (fun rv _ => rv = some (.int 1))) : pm_V (some (L, xs)) 40 186 358 [.retAddr 0, .ref 0, .ref 59, .int (nI p)] [] w (fun rv _ => rv = some (.int 1)) := by
  refine v_aload_n rfl rfl ?_
  refine v_saload_n rfl rfl ?_
  refine v_iload_n rfl rfl ?_
  refine v_iconst (v := 1) rfl (by decide) ?_
  refine v_iadd rfl ?_
  refine v_sld (n := p + 1) rfl (s_ix (by omega) rfl (by omega)) (by omega) ?_
  refine v_callV rfl (q_span (xs (p + 1)) hJ) rfl rfl h0 rfl rfl (by decide) (fun rv w1 hq => ?_)
  obtain ⟨⟨fs1, h59⟩, v, rfl, hm⟩ := hq
  refine v_pop rfl rfl ?_
  refine v_aload_n rfl rfl ?_
  refine v_saload_n rfl rfl ?_
  refine v_iload_n rfl rfl ?_
  refine v_iconst (v := 1) rfl (by decide) ?_
  refine v_iadd rfl ?_
  refine v_sld (n := p + 1) rfl (s_ix (by omega) rfl (by omega)) (by omega) ?_
  refine v_callV rfl hm rfl rfl h59 rfl rfl (by decide) (fun r2 w2 hq2 => ?_)
  obtain ⟨⟨v2, rfl⟩, hJ2⟩ := hq2
  refine v_pop rfl rfl ?_
  refine v_goto rfl ?_
  exact k w2 hJ2
set_option maxRecDepth 100000 in
theorem l_case5 {L p : Nat} {xs : Nat → Int32} {w : pm_W} {fs : List Value} (hp : p + 5 ≤ L) (hL : L ≤ 2560) (hJ : pm_J w) (h0 : w[0]? = some (.inr (11, fs))) (k : ∀ w1, pm_J w1 → pm_V (some (L, xs)) 40 186 1303 [.retAddr 0, .ref 0, .ref 59, .int (nI p)] [] w1 (fun rv _ => rv = some (.int 1))) : pm_V (some (L, xs)) 40 186 381 [.retAddr 0, .ref 0, .ref 59, .int (nI p)] [] w (fun rv _ => rv = some (.int 1)) := by
  refine v_aload_n rfl rfl ?_
  refine v_saload_n rfl rfl ?_
  refine v_iload_n rfl rfl ?_
  refine v_iconst (v := 1) rfl (by decide) ?_
  refine v_iadd rfl ?_
  refine v_sld (n := p + 1) rfl (s_ix (by omega) rfl (by omega)) (by omega) ?_
  refine v_callV rfl (q_mirror (xs (p + 1)) hJ) rfl rfl h0 rfl rfl (by decide) (fun rv w1 hq => ?_)
  obtain ⟨⟨fs1, h59⟩, v, rfl, hm⟩ := hq
  refine v_pop rfl rfl ?_
  refine v_aload_n rfl rfl ?_
  refine v_saload_n rfl rfl ?_
  refine v_iload_n rfl rfl ?_
  refine v_iconst (v := 1) rfl (by decide) ?_
  refine v_iadd rfl ?_
  refine v_sld (n := p + 1) rfl (s_ix (by omega) rfl (by omega)) (by omega) ?_
  refine v_callV rfl hm rfl rfl h59 rfl rfl (by decide) (fun r2 w2 hq2 => ?_)
  obtain ⟨⟨v2, rfl⟩, hJ2⟩ := hq2
  refine v_pop rfl rfl ?_
  refine v_goto rfl ?_
  exact k w2 hJ2
set_option maxRecDepth 100000 in
theorem l_case6 {L p : Nat} {xs : Nat → Int32} {w : pm_W} {fs : List Value} (hp : p + 5 ≤ L) (hL : L ≤ 2560) (hJ : pm_J w) (h0 : w[0]? = some (.inr (11, fs))) (k : ∀ w1, pm_J w1 → pm_V (some (L, xs)) 40 186 1303 [.retAddr 0, .ref 0, .ref 59, .int (nI p)] [] w1 (fun rv _ => rv = some (.int 1))) : pm_V (some (L, xs)) 40 186 404 [.retAddr 0, .ref 0, .ref 59, .int (nI p)] [] w (fun rv _ => rv = some (.int 1)) := by
  refine v_aload_n rfl rfl ?_
  refine v_callV rfl (q_cords  hJ) rfl rfl h0 rfl rfl (by decide) (fun rv w1 hq => ?_)
  obtain ⟨⟨fs1, h59⟩, v, rfl, hm⟩ := hq
  refine v_pop rfl rfl ?_
  refine v_aload_n rfl rfl ?_
  refine v_callV rfl hm rfl rfl h59 rfl rfl (by decide) (fun r2 w2 hq2 => ?_)
  obtain ⟨⟨v2, rfl⟩, hJ2⟩ := hq2
  refine v_pop rfl rfl ?_
  refine v_goto rfl ?_
  exact k w2 hJ2
set_option maxRecDepth 100000 in
theorem l_case7 {L p : Nat} {xs : Nat → Int32} {w : pm_W} {fs : List Value} (hp : p + 5 ≤ L) (hL : L ≤ 2560) (hJ : pm_J w) (h0 : w[0]? = some (.inr (11, fs))) (k : ∀ w1, pm_J w1 → pm_V (some (L, xs)) 40 186 1303 [.retAddr 0, .ref 0, .ref 59, .int (nI p)] [] w1 (fun rv _ => rv = some (.int 1))) : pm_V (some (L, xs)) 40 186 417 [.retAddr 0, .ref 0, .ref 59, .int (nI p)] [] w (fun rv _ => rv = some (.int 1)) := by
  refine v_aload_n rfl rfl ?_
  refine v_saload_n rfl rfl ?_
  refine v_iload_n rfl rfl ?_
  refine v_iconst (v := 1) rfl (by decide) ?_
  refine v_iadd rfl ?_
  refine v_sld (n := p + 1) rfl (s_ix (by omega) rfl (by omega)) (by omega) ?_
  refine v_callV rfl (q_cord (xs (p + 1)) hJ) rfl rfl h0 rfl rfl (by decide) (fun rv w1 hq => ?_)
  obtain ⟨⟨fs1, h59⟩, v, rfl, hm⟩ := hq
  refine v_pop rfl rfl ?_
  refine v_aload_n rfl rfl ?_
  refine v_saload_n rfl rfl ?_
  refine v_iload_n rfl rfl ?_
  refine v_iconst (v := 1) rfl (by decide) ?_
  refine v_iadd rfl ?_
  refine v_sld (n := p + 1) rfl (s_ix (by omega) rfl (by omega)) (by omega) ?_
  refine v_callV rfl hm rfl rfl h59 rfl rfl (by decide) (fun r2 w2 hq2 => ?_)
  obtain ⟨⟨v2, rfl⟩, hJ2⟩ := hq2
  refine v_pop rfl rfl ?_
  refine v_goto rfl ?_
  exact k w2 hJ2
set_option maxRecDepth 100000 in
theorem l_case8 {L p : Nat} {xs : Nat → Int32} {w : pm_W} {fs : List Value} (hp : p + 5 ≤ L) (hL : L ≤ 2560) (hJ : pm_J w) (h0 : w[0]? = some (.inr (11, fs))) (k : ∀ w1, pm_J w1 → pm_V (some (L, xs)) 40 186 1303 [.retAddr 0, .ref 0, .ref 59, .int (nI p)] [] w1 (fun rv _ => rv = some (.int 1))) : pm_V (some (L, xs)) 40 186 440 [.retAddr 0, .ref 0, .ref 59, .int (nI p)] [] w (fun rv _ => rv = some (.int 1)) := by
  refine v_aload_n rfl rfl ?_
  refine v_saload_n rfl rfl ?_
  refine v_iload_n rfl rfl ?_
  refine v_iconst (v := 1) rfl (by decide) ?_
  refine v_iadd rfl ?_
  refine v_sld (n := p + 1) rfl (s_ix (by omega) rfl (by omega)) (by omega) ?_
  refine v_saload_n rfl rfl ?_
  refine v_iload_n rfl rfl ?_
  refine v_iconst (v := 2) rfl (by decide) ?_
  refine v_iadd rfl ?_
  refine v_sld (n := p + 2) rfl (s_ix (by omega) rfl (by omega)) (by omega) ?_
  refine v_callV rfl (q_pull (xs (p + 1)) (xs (p + 2)) hJ) rfl rfl h0 rfl rfl (by decide) (fun rv w1 hq => ?_)
  obtain ⟨⟨fs1, h59⟩, v, rfl, hm⟩ := hq
  refine v_pop rfl rfl ?_
  refine v_aload_n rfl rfl ?_
  refine v_saload_n rfl rfl ?_
  refine v_iload_n rfl rfl ?_
  refine v_iconst (v := 1) rfl (by decide) ?_
  refine v_iadd rfl ?_
  refine v_sld (n := p + 1) rfl (s_ix (by omega) rfl (by omega)) (by omega) ?_
  refine v_saload_n rfl rfl ?_
  refine v_iload_n rfl rfl ?_
  refine v_iconst (v := 2) rfl (by decide) ?_
  refine v_iadd rfl ?_
  refine v_sld (n := p + 2) rfl (s_ix (by omega) rfl (by omega)) (by omega) ?_
  refine v_callV rfl hm rfl rfl h59 rfl rfl (by decide) (fun r2 w2 hq2 => ?_)
  obtain ⟨⟨v2, rfl⟩, hJ2⟩ := hq2
  refine v_pop rfl rfl ?_
  refine v_goto rfl ?_
  exact k w2 hJ2
set_option maxRecDepth 100000 in
theorem l_case9 {L p : Nat} {xs : Nat → Int32} {w : pm_W} {fs : List Value} (hp : p + 5 ≤ L) (hL : L ≤ 2560) (hJ : pm_J w) (h0 : w[0]? = some (.inr (11, fs))) (k : ∀ w1, pm_J w1 → pm_V (some (L, xs)) 40 186 1303 [.retAddr 0, .ref 0, .ref 59, .int (nI p)] [] w1 (fun rv _ => rv = some (.int 1))) : pm_V (some (L, xs)) 40 186 473 [.retAddr 0, .ref 0, .ref 59, .int (nI p)] [] w (fun rv _ => rv = some (.int 1)) := by
  refine v_aload_n rfl rfl ?_
  refine v_callV rfl (q_pulls  hJ) rfl rfl h0 rfl rfl (by decide) (fun rv w1 hq => ?_)
  obtain ⟨⟨fs1, h59⟩, v, rfl, hm⟩ := hq
  refine v_pop rfl rfl ?_
  refine v_aload_n rfl rfl ?_
  refine v_callV rfl hm rfl rfl h59 rfl rfl (by decide) (fun r2 w2 hq2 => ?_)
  obtain ⟨⟨v2, rfl⟩, hJ2⟩ := hq2
  refine v_pop rfl rfl ?_
  refine v_goto rfl ?_
  exact k w2 hJ2
set_option maxRecDepth 100000 in
theorem l_case10 {L p : Nat} {xs : Nat → Int32} {w : pm_W} {fs : List Value} (hp : p + 5 ≤ L) (hL : L ≤ 2560) (hJ : pm_J w) (h0 : w[0]? = some (.inr (11, fs))) (k : ∀ w1, pm_J w1 → pm_V (some (L, xs)) 40 186 1303 [.retAddr 0, .ref 0, .ref 59, .int (nI p)] [] w1 (fun rv _ => rv = some (.int 1))) : pm_V (some (L, xs)) 40 186 486 [.retAddr 0, .ref 0, .ref 59, .int (nI p)] [] w (fun rv _ => rv = some (.int 1)) := by
  refine v_aload_n rfl rfl ?_
  refine v_saload_n rfl rfl ?_
  refine v_iload_n rfl rfl ?_
  refine v_iconst (v := 1) rfl (by decide) ?_
  refine v_iadd rfl ?_
  refine v_sld (n := p + 1) rfl (s_ix (by omega) rfl (by omega)) (by omega) ?_
  refine v_saload_n rfl rfl ?_
  refine v_iload_n rfl rfl ?_
  refine v_iconst (v := 2) rfl (by decide) ?_
  refine v_iadd rfl ?_
  refine v_sld (n := p + 2) rfl (s_ix (by omega) rfl (by omega)) (by omega) ?_
  refine v_callV rfl (q_pullOf (xs (p + 1)) (xs (p + 2)) hJ) rfl rfl h0 rfl rfl (by decide) (fun rv w1 hq => ?_)
  obtain ⟨⟨fs1, h59⟩, v, rfl, hm⟩ := hq
  refine v_pop rfl rfl ?_
  refine v_aload_n rfl rfl ?_
  refine v_saload_n rfl rfl ?_
  refine v_iload_n rfl rfl ?_
  refine v_iconst (v := 1) rfl (by decide) ?_
  refine v_iadd rfl ?_
  refine v_sld (n := p + 1) rfl (s_ix (by omega) rfl (by omega)) (by omega) ?_
  refine v_saload_n rfl rfl ?_
  refine v_iload_n rfl rfl ?_
  refine v_iconst (v := 2) rfl (by decide) ?_
  refine v_iadd rfl ?_
  refine v_sld (n := p + 2) rfl (s_ix (by omega) rfl (by omega)) (by omega) ?_
  refine v_callV rfl hm rfl rfl h59 rfl rfl (by decide) (fun r2 w2 hq2 => ?_)
  obtain ⟨⟨v2, rfl⟩, hJ2⟩ := hq2
  refine v_pop rfl rfl ?_
  refine v_goto rfl ?_
  exact k w2 hJ2
set_option maxRecDepth 100000 in
theorem l_case11 {L p : Nat} {xs : Nat → Int32} {w : pm_W} {fs : List Value} (hp : p + 5 ≤ L) (hL : L ≤ 2560) (hJ : pm_J w) (h0 : w[0]? = some (.inr (11, fs))) (k : ∀ w1, pm_J w1 → pm_V (some (L, xs)) 40 186 1303 [.retAddr 0, .ref 0, .ref 59, .int (nI p)] [] w1 (fun rv _ => rv = some (.int 1))) : pm_V (some (L, xs)) 40 186 519 [.retAddr 0, .ref 0, .ref 59, .int (nI p)] [] w (fun rv _ => rv = some (.int 1)) := by
  refine v_aload_n rfl rfl ?_
  refine v_saload_n rfl rfl ?_
  refine v_iload_n rfl rfl ?_
  refine v_iconst (v := 1) rfl (by decide) ?_
  refine v_iadd rfl ?_
  refine v_sld (n := p + 1) rfl (s_ix (by omega) rfl (by omega)) (by omega) ?_
  refine v_callV rfl (q_limit (xs (p + 1)) hJ) rfl rfl h0 rfl rfl (by decide) (fun rv w1 hq => ?_)
  obtain ⟨⟨fs1, h59⟩, v, rfl, hm⟩ := hq
  refine v_pop rfl rfl ?_
  refine v_aload_n rfl rfl ?_
  refine v_saload_n rfl rfl ?_
  refine v_iload_n rfl rfl ?_
  refine v_iconst (v := 1) rfl (by decide) ?_
  refine v_iadd rfl ?_
  refine v_sld (n := p + 1) rfl (s_ix (by omega) rfl (by omega)) (by omega) ?_
  refine v_callV rfl hm rfl rfl h59 rfl rfl (by decide) (fun r2 w2 hq2 => ?_)
  obtain ⟨rfl, hJ2⟩ := hq2
  refine v_pop rfl rfl ?_
  refine v_goto rfl ?_
  exact k w2 hJ2
set_option maxRecDepth 100000 in
theorem l_case12 {L p : Nat} {xs : Nat → Int32} {w : pm_W} {fs : List Value} (hp : p + 5 ≤ L) (hL : L ≤ 2560) (hJ : pm_J w) (h0 : w[0]? = some (.inr (11, fs))) (k : ∀ w1, pm_J w1 → pm_V (some (L, xs)) 40 186 1303 [.retAddr 0, .ref 0, .ref 59, .int (nI p)] [] w1 (fun rv _ => rv = some (.int 1))) : pm_V (some (L, xs)) 40 186 542 [.retAddr 0, .ref 0, .ref 59, .int (nI p)] [] w (fun rv _ => rv = some (.int 1)) := by
  refine v_aload_n rfl rfl ?_
  refine v_saload_n rfl rfl ?_
  refine v_iload_n rfl rfl ?_
  refine v_iconst (v := 1) rfl (by decide) ?_
  refine v_iadd rfl ?_
  refine v_sld (n := p + 1) rfl (s_ix (by omega) rfl (by omega)) (by omega) ?_
  refine v_saload_n rfl rfl ?_
  refine v_iload_n rfl rfl ?_
  refine v_iconst (v := 2) rfl (by decide) ?_
  refine v_iadd rfl ?_
  refine v_sld (n := p + 2) rfl (s_ix (by omega) rfl (by omega)) (by omega) ?_
  refine v_callV rfl (q_floats (xs (p + 1)) (xs (p + 2)) hJ) rfl rfl h0 rfl rfl (by decide) (fun rv w1 hq => ?_)
  obtain ⟨⟨fs1, h59⟩, v, rfl, hm⟩ := hq
  refine v_pop rfl rfl ?_
  refine v_aload_n rfl rfl ?_
  refine v_saload_n rfl rfl ?_
  refine v_iload_n rfl rfl ?_
  refine v_iconst (v := 1) rfl (by decide) ?_
  refine v_iadd rfl ?_
  refine v_sld (n := p + 1) rfl (s_ix (by omega) rfl (by omega)) (by omega) ?_
  refine v_saload_n rfl rfl ?_
  refine v_iload_n rfl rfl ?_
  refine v_iconst (v := 2) rfl (by decide) ?_
  refine v_iadd rfl ?_
  refine v_sld (n := p + 2) rfl (s_ix (by omega) rfl (by omega)) (by omega) ?_
  refine v_callV rfl hm rfl rfl h59 rfl rfl (by decide) (fun r2 w2 hq2 => ?_)
  obtain ⟨⟨v2, rfl⟩, hJ2⟩ := hq2
  refine v_pop rfl rfl ?_
  refine v_goto rfl ?_
  exact k w2 hJ2
set_option maxRecDepth 100000 in
theorem l_case13 {L p : Nat} {xs : Nat → Int32} {w : pm_W} {fs : List Value} (hp : p + 5 ≤ L) (hL : L ≤ 2560) (hJ : pm_J w) (h0 : w[0]? = some (.inr (11, fs))) (k : ∀ w1, pm_J w1 → pm_V (some (L, xs)) 40 186 1303 [.retAddr 0, .ref 0, .ref 59, .int (nI p)] [] w1 (fun rv _ => rv = some (.int 1))) : pm_V (some (L, xs)) 40 186 575 [.retAddr 0, .ref 0, .ref 59, .int (nI p)] [] w (fun rv _ => rv = some (.int 1)) := by
  refine v_aload_n rfl rfl ?_
  refine v_saload_n rfl rfl ?_
  refine v_iload_n rfl rfl ?_
  refine v_iconst (v := 1) rfl (by decide) ?_
  refine v_iadd rfl ?_
  refine v_sld (n := p + 1) rfl (s_ix (by omega) rfl (by omega)) (by omega) ?_
  refine v_callV rfl (q_mend (xs (p + 1)) hJ) rfl rfl h0 rfl rfl (by decide) (fun rv w1 hq => ?_)
  obtain ⟨⟨fs1, h59⟩, v, rfl, hm⟩ := hq
  refine v_pop rfl rfl ?_
  refine v_aload_n rfl rfl ?_
  refine v_saload_n rfl rfl ?_
  refine v_iload_n rfl rfl ?_
  refine v_iconst (v := 1) rfl (by decide) ?_
  refine v_iadd rfl ?_
  refine v_sld (n := p + 1) rfl (s_ix (by omega) rfl (by omega)) (by omega) ?_
  refine v_callV rfl hm rfl rfl h59 rfl rfl (by decide) (fun r2 w2 hq2 => ?_)
  obtain ⟨⟨v2, rfl⟩, hJ2⟩ := hq2
  refine v_pop rfl rfl ?_
  refine v_goto rfl ?_
  exact k w2 hJ2
set_option maxRecDepth 100000 in
theorem l_case14 {L p : Nat} {xs : Nat → Int32} {w : pm_W} {fs : List Value} (hp : p + 5 ≤ L) (hL : L ≤ 2560) (hJ : pm_J w) (h0 : w[0]? = some (.inr (11, fs))) (k : ∀ w1, pm_J w1 → pm_V (some (L, xs)) 40 186 1303 [.retAddr 0, .ref 0, .ref 59, .int (nI p)] [] w1 (fun rv _ => rv = some (.int 1))) : pm_V (some (L, xs)) 40 186 598 [.retAddr 0, .ref 0, .ref 59, .int (nI p)] [] w (fun rv _ => rv = some (.int 1)) := by
  refine v_aload_n rfl rfl ?_
  refine v_saload_n rfl rfl ?_
  refine v_iload_n rfl rfl ?_
  refine v_iconst (v := 1) rfl (by decide) ?_
  refine v_iadd rfl ?_
  refine v_sld (n := p + 1) rfl (s_ix (by omega) rfl (by omega)) (by omega) ?_
  refine v_saload_n rfl rfl ?_
  refine v_iload_n rfl rfl ?_
  refine v_iconst (v := 2) rfl (by decide) ?_
  refine v_iadd rfl ?_
  refine v_sld (n := p + 2) rfl (s_ix (by omega) rfl (by omega)) (by omega) ?_
  refine v_saload_n rfl rfl ?_
  refine v_iload_n rfl rfl ?_
  refine v_iconst (v := 3) rfl (by decide) ?_
  refine v_iadd rfl ?_
  refine v_sld (n := p + 3) rfl (s_ix (by omega) rfl (by omega)) (by omega) ?_
  refine v_callV rfl (q_fault (xs (p + 1)) (xs (p + 2)) (xs (p + 3)) hJ) rfl rfl h0 rfl rfl (by decide) (fun rv w1 hq => ?_)
  obtain ⟨⟨fs1, h59⟩, v, rfl, hm⟩ := hq
  refine v_pop rfl rfl ?_
  refine v_aload_n rfl rfl ?_
  refine v_saload_n rfl rfl ?_
  refine v_iload_n rfl rfl ?_
  refine v_iconst (v := 1) rfl (by decide) ?_
  refine v_iadd rfl ?_
  refine v_sld (n := p + 1) rfl (s_ix (by omega) rfl (by omega)) (by omega) ?_
  refine v_saload_n rfl rfl ?_
  refine v_iload_n rfl rfl ?_
  refine v_iconst (v := 2) rfl (by decide) ?_
  refine v_iadd rfl ?_
  refine v_sld (n := p + 2) rfl (s_ix (by omega) rfl (by omega)) (by omega) ?_
  refine v_saload_n rfl rfl ?_
  refine v_iload_n rfl rfl ?_
  refine v_iconst (v := 3) rfl (by decide) ?_
  refine v_iadd rfl ?_
  refine v_sld (n := p + 3) rfl (s_ix (by omega) rfl (by omega)) (by omega) ?_
  refine v_callV rfl hm rfl rfl h59 rfl rfl (by decide) (fun r2 w2 hq2 => ?_)
  obtain ⟨rfl, hJ2⟩ := hq2
  refine v_pop rfl rfl ?_
  refine v_goto rfl ?_
  exact k w2 hJ2
set_option maxRecDepth 100000 in
theorem l_case15 {L p : Nat} {xs : Nat → Int32} {w : pm_W} {fs : List Value} (hp : p + 5 ≤ L) (hL : L ≤ 2560) (hJ : pm_J w) (h0 : w[0]? = some (.inr (11, fs))) (k : ∀ w1, pm_J w1 → pm_V (some (L, xs)) 40 186 1303 [.retAddr 0, .ref 0, .ref 59, .int (nI p)] [] w1 (fun rv _ => rv = some (.int 1))) : pm_V (some (L, xs)) 40 186 641 [.retAddr 0, .ref 0, .ref 59, .int (nI p)] [] w (fun rv _ => rv = some (.int 1)) := by
  refine v_aload_n rfl rfl ?_
  refine v_callV rfl (q_clear  hJ) rfl rfl h0 rfl rfl (by decide) (fun rv w1 hq => ?_)
  obtain ⟨⟨fs1, h59⟩, v, rfl, hm⟩ := hq
  refine v_pop rfl rfl ?_
  refine v_aload_n rfl rfl ?_
  refine v_callV rfl hm rfl rfl h59 rfl rfl (by decide) (fun r2 w2 hq2 => ?_)
  obtain ⟨rfl, hJ2⟩ := hq2
  refine v_pop rfl rfl ?_
  refine v_goto rfl ?_
  exact k w2 hJ2
set_option maxRecDepth 100000 in
theorem l_case16 {L p : Nat} {xs : Nat → Int32} {w : pm_W} {fs : List Value} (hp : p + 5 ≤ L) (hL : L ≤ 2560) (hJ : pm_J w) (h0 : w[0]? = some (.inr (11, fs))) (k : ∀ w1, pm_J w1 → pm_V (some (L, xs)) 40 186 1303 [.retAddr 0, .ref 0, .ref 59, .int (nI p)] [] w1 (fun rv _ => rv = some (.int 1))) : pm_V (some (L, xs)) 40 186 654 [.retAddr 0, .ref 0, .ref 59, .int (nI p)] [] w (fun rv _ => rv = some (.int 1)) := by
  refine v_aload_n rfl rfl ?_
  refine v_callV rfl (q_weave  hJ) rfl rfl h0 rfl rfl (by decide) (fun rv w1 hq => ?_)
  obtain ⟨⟨fs1, h59⟩, v, rfl, hm⟩ := hq
  refine v_pop rfl rfl ?_
  refine v_aload_n rfl rfl ?_
  refine v_callV rfl hm rfl rfl h59 rfl rfl (by decide) (fun r2 w2 hq2 => ?_)
  obtain ⟨rfl, hJ2⟩ := hq2
  refine v_pop rfl rfl ?_
  refine v_goto rfl ?_
  exact k w2 hJ2
set_option maxRecDepth 100000 in
theorem l_case17 {L p : Nat} {xs : Nat → Int32} {w : pm_W} {fs : List Value} (hp : p + 5 ≤ L) (hL : L ≤ 2560) (hJ : pm_J w) (h0 : w[0]? = some (.inr (11, fs))) (k : ∀ w1, pm_J w1 → pm_V (some (L, xs)) 40 186 1303 [.retAddr 0, .ref 0, .ref 59, .int (nI p)] [] w1 (fun rv _ => rv = some (.int 1))) : pm_V (some (L, xs)) 40 186 667 [.retAddr 0, .ref 0, .ref 59, .int (nI p)] [] w (fun rv _ => rv = some (.int 1)) := by
  refine v_aload_n rfl rfl ?_
  refine v_saload_n rfl rfl ?_
  refine v_iload_n rfl rfl ?_
  refine v_iconst (v := 1) rfl (by decide) ?_
  refine v_iadd rfl ?_
  refine v_sld (n := p + 1) rfl (s_ix (by omega) rfl (by omega)) (by omega) ?_
  refine v_saload_n rfl rfl ?_
  refine v_iload_n rfl rfl ?_
  refine v_iconst (v := 2) rfl (by decide) ?_
  refine v_iadd rfl ?_
  refine v_sld (n := p + 2) rfl (s_ix (by omega) rfl (by omega)) (by omega) ?_
  refine v_callV rfl (q_cloth (xs (p + 1)) (xs (p + 2)) hJ) rfl rfl h0 rfl rfl (by decide) (fun rv w1 hq => ?_)
  obtain ⟨⟨fs1, h59⟩, v, rfl, hm⟩ := hq
  refine v_pop rfl rfl ?_
  refine v_aload_n rfl rfl ?_
  refine v_saload_n rfl rfl ?_
  refine v_iload_n rfl rfl ?_
  refine v_iconst (v := 1) rfl (by decide) ?_
  refine v_iadd rfl ?_
  refine v_sld (n := p + 1) rfl (s_ix (by omega) rfl (by omega)) (by omega) ?_
  refine v_saload_n rfl rfl ?_
  refine v_iload_n rfl rfl ?_
  refine v_iconst (v := 2) rfl (by decide) ?_
  refine v_iadd rfl ?_
  refine v_sld (n := p + 2) rfl (s_ix (by omega) rfl (by omega)) (by omega) ?_
  refine v_callV rfl hm rfl rfl h59 rfl rfl (by decide) (fun r2 w2 hq2 => ?_)
  obtain ⟨⟨v2, rfl⟩, hJ2⟩ := hq2
  refine v_pop rfl rfl ?_
  refine v_goto rfl ?_
  exact k w2 hJ2
set_option maxRecDepth 100000 in
theorem l_case18 {L p : Nat} {xs : Nat → Int32} {w : pm_W} {fs : List Value} (hp : p + 5 ≤ L) (hL : L ≤ 2560) (hJ : pm_J w) (h0 : w[0]? = some (.inr (11, fs))) (k : ∀ w1, pm_J w1 → pm_V (some (L, xs)) 40 186 1303 [.retAddr 0, .ref 0, .ref 59, .int (nI p)] [] w1 (fun rv _ => rv = some (.int 1))) : pm_V (some (L, xs)) 40 186 700 [.retAddr 0, .ref 0, .ref 59, .int (nI p)] [] w (fun rv _ => rv = some (.int 1)) := by
  refine v_aload_n rfl rfl ?_
  refine v_saload_n rfl rfl ?_
  refine v_iload_n rfl rfl ?_
  refine v_iconst (v := 1) rfl (by decide) ?_
  refine v_iadd rfl ?_
  refine v_sld (n := p + 1) rfl (s_ix (by omega) rfl (by omega)) (by omega) ?_
  refine v_saload_n rfl rfl ?_
  refine v_iload_n rfl rfl ?_
  refine v_iconst (v := 2) rfl (by decide) ?_
  refine v_iadd rfl ?_
  refine v_sld (n := p + 2) rfl (s_ix (by omega) rfl (by omega)) (by omega) ?_
  refine v_saload_n rfl rfl ?_
  refine v_iload_n rfl rfl ?_
  refine v_iconst (v := 3) rfl (by decide) ?_
  refine v_iadd rfl ?_
  refine v_sld (n := p + 3) rfl (s_ix (by omega) rfl (by omega)) (by omega) ?_
  refine v_callV rfl (q_see (xs (p + 1)) (xs (p + 2)) (xs (p + 3)) hJ) rfl rfl h0 rfl rfl (by decide) (fun rv w1 hq => ?_)
  obtain ⟨⟨fs1, h59⟩, v, rfl, hm⟩ := hq
  refine v_aload_n rfl rfl ?_
  refine v_saload_n rfl rfl ?_
  refine v_iload_n rfl rfl ?_
  refine v_iconst (v := 1) rfl (by decide) ?_
  refine v_iadd rfl ?_
  refine v_sld (n := p + 1) rfl (s_ix (by omega) rfl (by omega)) (by omega) ?_
  refine v_saload_n rfl rfl ?_
  refine v_iload_n rfl rfl ?_
  refine v_iconst (v := 2) rfl (by decide) ?_
  refine v_iadd rfl ?_
  refine v_sld (n := p + 2) rfl (s_ix (by omega) rfl (by omega)) (by omega) ?_
  refine v_saload_n rfl rfl ?_
  refine v_iload_n rfl rfl ?_
  refine v_iconst (v := 3) rfl (by decide) ?_
  refine v_iadd rfl ?_
  refine v_sld (n := p + 3) rfl (s_ix (by omega) rfl (by omega)) (by omega) ?_
  refine v_callV rfl hm rfl rfl h59 rfl rfl (by decide) (fun r2 w2 hq2 => ?_)
  obtain ⟨rfl, hJ2⟩ := hq2
  refine v_icmp_eq rfl (fun _ => ?_) (fun hx => absurd rfl hx)
  exact k w2 hJ2
set_option maxRecDepth 100000 in
theorem l_case19 {L p : Nat} {xs : Nat → Int32} {w : pm_W} {fs : List Value} (hp : p + 5 ≤ L) (hL : L ≤ 2560) (hJ : pm_J w) (h0 : w[0]? = some (.inr (11, fs))) (k : ∀ w1, pm_J w1 → pm_V (some (L, xs)) 40 186 1303 [.retAddr 0, .ref 0, .ref 59, .int (nI p)] [] w1 (fun rv _ => rv = some (.int 1))) : pm_V (some (L, xs)) 40 186 743 [.retAddr 0, .ref 0, .ref 59, .int (nI p)] [] w (fun rv _ => rv = some (.int 1)) := by
  refine v_aload_n rfl rfl ?_
  refine v_saload_n rfl rfl ?_
  refine v_iload_n rfl rfl ?_
  refine v_iconst (v := 1) rfl (by decide) ?_
  refine v_iadd rfl ?_
  refine v_sld (n := p + 1) rfl (s_ix (by omega) rfl (by omega)) (by omega) ?_
  refine v_callV rfl (q_explained (xs (p + 1)) hJ) rfl rfl h0 rfl rfl (by decide) (fun rv w1 hq => ?_)
  obtain ⟨⟨fs1, h59⟩, v, rfl, hm⟩ := hq
  refine v_pop rfl rfl ?_
  refine v_aload_n rfl rfl ?_
  refine v_saload_n rfl rfl ?_
  refine v_iload_n rfl rfl ?_
  refine v_iconst (v := 1) rfl (by decide) ?_
  refine v_iadd rfl ?_
  refine v_sld (n := p + 1) rfl (s_ix (by omega) rfl (by omega)) (by omega) ?_
  refine v_callV rfl hm rfl rfl h59 rfl rfl (by decide) (fun r2 w2 hq2 => ?_)
  obtain ⟨⟨v2, rfl⟩, hJ2⟩ := hq2
  refine v_pop rfl rfl ?_
  refine v_goto rfl ?_
  exact k w2 hJ2
set_option maxRecDepth 100000 in
theorem l_case20 {L p : Nat} {xs : Nat → Int32} {w : pm_W} {fs : List Value} (hp : p + 5 ≤ L) (hL : L ≤ 2560) (hJ : pm_J w) (h0 : w[0]? = some (.inr (11, fs))) (k : ∀ w1, pm_J w1 → pm_V (some (L, xs)) 40 186 1303 [.retAddr 0, .ref 0, .ref 59, .int (nI p)] [] w1 (fun rv _ => rv = some (.int 1))) : pm_V (some (L, xs)) 40 186 766 [.retAddr 0, .ref 0, .ref 59, .int (nI p)] [] w (fun rv _ => rv = some (.int 1)) := by
  refine v_aload_n rfl rfl ?_
  refine v_saload_n rfl rfl ?_
  refine v_iload_n rfl rfl ?_
  refine v_iconst (v := 1) rfl (by decide) ?_
  refine v_iadd rfl ?_
  refine v_sld (n := p + 1) rfl (s_ix (by omega) rfl (by omega)) (by omega) ?_
  refine v_saload_n rfl rfl ?_
  refine v_iload_n rfl rfl ?_
  refine v_iconst (v := 2) rfl (by decide) ?_
  refine v_iadd rfl ?_
  refine v_sld (n := p + 2) rfl (s_ix (by omega) rfl (by omega)) (by omega) ?_
  refine v_callV rfl (q_set (xs (p + 1)) (xs (p + 2)) hJ) rfl rfl h0 rfl rfl (by decide) (fun rv w1 hq => ?_)
  obtain ⟨⟨fs1, h59⟩, v, rfl, hm⟩ := hq
  refine v_pop rfl rfl ?_
  refine v_aload_n rfl rfl ?_
  refine v_saload_n rfl rfl ?_
  refine v_iload_n rfl rfl ?_
  refine v_iconst (v := 1) rfl (by decide) ?_
  refine v_iadd rfl ?_
  refine v_sld (n := p + 1) rfl (s_ix (by omega) rfl (by omega)) (by omega) ?_
  refine v_saload_n rfl rfl ?_
  refine v_iload_n rfl rfl ?_
  refine v_iconst (v := 2) rfl (by decide) ?_
  refine v_iadd rfl ?_
  refine v_sld (n := p + 2) rfl (s_ix (by omega) rfl (by omega)) (by omega) ?_
  refine v_callV rfl hm rfl rfl h59 rfl rfl (by decide) (fun r2 w2 hq2 => ?_)
  obtain ⟨rfl, hJ2⟩ := hq2
  refine v_pop rfl rfl ?_
  refine v_goto rfl ?_
  exact k w2 hJ2
set_option maxRecDepth 100000 in
theorem l_case21 {L p : Nat} {xs : Nat → Int32} {w : pm_W} {fs : List Value} (hp : p + 5 ≤ L) (hL : L ≤ 2560) (hJ : pm_J w) (h0 : w[0]? = some (.inr (11, fs))) (k : ∀ w1, pm_J w1 → pm_V (some (L, xs)) 40 186 1303 [.retAddr 0, .ref 0, .ref 59, .int (nI p)] [] w1 (fun rv _ => rv = some (.int 1))) : pm_V (some (L, xs)) 40 186 799 [.retAddr 0, .ref 0, .ref 59, .int (nI p)] [] w (fun rv _ => rv = some (.int 1)) := by
  refine v_aload_n rfl rfl ?_
  refine v_saload_n rfl rfl ?_
  refine v_iload_n rfl rfl ?_
  refine v_iconst (v := 1) rfl (by decide) ?_
  refine v_iadd rfl ?_
  refine v_sld (n := p + 1) rfl (s_ix (by omega) rfl (by omega)) (by omega) ?_
  refine v_saload_n rfl rfl ?_
  refine v_iload_n rfl rfl ?_
  refine v_iconst (v := 2) rfl (by decide) ?_
  refine v_iadd rfl ?_
  refine v_sld (n := p + 2) rfl (s_ix (by omega) rfl (by omega)) (by omega) ?_
  refine v_saload_n rfl rfl ?_
  refine v_iload_n rfl rfl ?_
  refine v_iconst (v := 3) rfl (by decide) ?_
  refine v_iadd rfl ?_
  refine v_sld (n := p + 3) rfl (s_ix (by omega) rfl (by omega)) (by omega) ?_
  refine v_callV rfl (q_order (xs (p + 1)) (xs (p + 2)) (xs (p + 3)) hJ) rfl rfl h0 rfl rfl (by decide) (fun rv w1 hq => ?_)
  obtain ⟨⟨fs1, h59⟩, v, rfl, hm⟩ := hq
  refine v_pop rfl rfl ?_
  refine v_aload_n rfl rfl ?_
  refine v_saload_n rfl rfl ?_
  refine v_iload_n rfl rfl ?_
  refine v_iconst (v := 1) rfl (by decide) ?_
  refine v_iadd rfl ?_
  refine v_sld (n := p + 1) rfl (s_ix (by omega) rfl (by omega)) (by omega) ?_
  refine v_saload_n rfl rfl ?_
  refine v_iload_n rfl rfl ?_
  refine v_iconst (v := 2) rfl (by decide) ?_
  refine v_iadd rfl ?_
  refine v_sld (n := p + 2) rfl (s_ix (by omega) rfl (by omega)) (by omega) ?_
  refine v_saload_n rfl rfl ?_
  refine v_iload_n rfl rfl ?_
  refine v_iconst (v := 3) rfl (by decide) ?_
  refine v_iadd rfl ?_
  refine v_sld (n := p + 3) rfl (s_ix (by omega) rfl (by omega)) (by omega) ?_
  refine v_callV rfl hm rfl rfl h59 rfl rfl (by decide) (fun r2 w2 hq2 => ?_)
  obtain ⟨rfl, hJ2⟩ := hq2
  refine v_pop rfl rfl ?_
  refine v_goto rfl ?_
  exact k w2 hJ2
set_option maxRecDepth 100000 in
theorem l_case22 {L p : Nat} {xs : Nat → Int32} {w : pm_W} {fs : List Value} (hp : p + 5 ≤ L) (hL : L ≤ 2560) (hJ : pm_J w) (h0 : w[0]? = some (.inr (11, fs))) (k : ∀ w1, pm_J w1 → pm_V (some (L, xs)) 40 186 1303 [.retAddr 0, .ref 0, .ref 59, .int (nI p)] [] w1 (fun rv _ => rv = some (.int 1))) : pm_V (some (L, xs)) 40 186 842 [.retAddr 0, .ref 0, .ref 59, .int (nI p)] [] w (fun rv _ => rv = some (.int 1)) := by
  refine v_aload_n rfl rfl ?_
  refine v_callV rfl (q_best  hJ) rfl rfl h0 rfl rfl (by decide) (fun rv w1 hq => ?_)
  obtain ⟨⟨fs1, h59⟩, v, rfl, hm⟩ := hq
  refine v_pop rfl rfl ?_
  refine v_aload_n rfl rfl ?_
  refine v_callV rfl hm rfl rfl h59 rfl rfl (by decide) (fun r2 w2 hq2 => ?_)
  obtain ⟨⟨v2, rfl⟩, hJ2⟩ := hq2
  refine v_pop rfl rfl ?_
  refine v_goto rfl ?_
  exact k w2 hJ2
set_option maxRecDepth 100000 in
theorem l_case23 {L p : Nat} {xs : Nat → Int32} {w : pm_W} {fs : List Value} (hp : p + 5 ≤ L) (hL : L ≤ 2560) (hJ : pm_J w) (h0 : w[0]? = some (.inr (11, fs))) (k : ∀ w1, pm_J w1 → pm_V (some (L, xs)) 40 186 1303 [.retAddr 0, .ref 0, .ref 59, .int (nI p)] [] w1 (fun rv _ => rv = some (.int 1))) : pm_V (some (L, xs)) 40 186 855 [.retAddr 0, .ref 0, .ref 59, .int (nI p)] [] w (fun rv _ => rv = some (.int 1)) := by
  refine v_aload_n rfl rfl ?_
  refine v_saload_n rfl rfl ?_
  refine v_iload_n rfl rfl ?_
  refine v_iconst (v := 1) rfl (by decide) ?_
  refine v_iadd rfl ?_
  refine v_sld (n := p + 1) rfl (s_ix (by omega) rfl (by omega)) (by omega) ?_
  refine v_callV rfl (q_bestAt (xs (p + 1)) hJ) rfl rfl h0 rfl rfl (by decide) (fun rv w1 hq => ?_)
  obtain ⟨⟨fs1, h59⟩, v, rfl, hm⟩ := hq
  refine v_pop rfl rfl ?_
  refine v_aload_n rfl rfl ?_
  refine v_saload_n rfl rfl ?_
  refine v_iload_n rfl rfl ?_
  refine v_iconst (v := 1) rfl (by decide) ?_
  refine v_iadd rfl ?_
  refine v_sld (n := p + 1) rfl (s_ix (by omega) rfl (by omega)) (by omega) ?_
  refine v_callV rfl hm rfl rfl h59 rfl rfl (by decide) (fun r2 w2 hq2 => ?_)
  obtain ⟨⟨v2, rfl⟩, hJ2⟩ := hq2
  refine v_pop rfl rfl ?_
  refine v_goto rfl ?_
  exact k w2 hJ2
set_option maxRecDepth 100000 in
theorem l_case24 {L p : Nat} {xs : Nat → Int32} {w : pm_W} {fs : List Value} (hp : p + 5 ≤ L) (hL : L ≤ 2560) (hJ : pm_J w) (h0 : w[0]? = some (.inr (11, fs))) (k : ∀ w1, pm_J w1 → pm_V (some (L, xs)) 40 186 1303 [.retAddr 0, .ref 0, .ref 59, .int (nI p)] [] w1 (fun rv _ => rv = some (.int 1))) : pm_V (some (L, xs)) 40 186 878 [.retAddr 0, .ref 0, .ref 59, .int (nI p)] [] w (fun rv _ => rv = some (.int 1)) := by
  refine v_aload_n rfl rfl ?_
  refine v_saload_n rfl rfl ?_
  refine v_iload_n rfl rfl ?_
  refine v_iconst (v := 1) rfl (by decide) ?_
  refine v_iadd rfl ?_
  refine v_sld (n := p + 1) rfl (s_ix (by omega) rfl (by omega)) (by omega) ?_
  refine v_callV rfl (q_work (xs (p + 1)) hJ) rfl rfl h0 rfl rfl (by decide) (fun rv w1 hq => ?_)
  obtain ⟨⟨fs1, h59⟩, v, rfl, hm⟩ := hq
  refine v_pop rfl rfl ?_
  refine v_aload_n rfl rfl ?_
  refine v_saload_n rfl rfl ?_
  refine v_iload_n rfl rfl ?_
  refine v_iconst (v := 1) rfl (by decide) ?_
  refine v_iadd rfl ?_
  refine v_sld (n := p + 1) rfl (s_ix (by omega) rfl (by omega)) (by omega) ?_
  refine v_callV rfl hm rfl rfl h59 rfl rfl (by decide) (fun r2 w2 hq2 => ?_)
  obtain ⟨rfl, hJ2⟩ := hq2
  refine v_pop rfl rfl ?_
  refine v_goto rfl ?_
  exact k w2 hJ2
set_option maxRecDepth 100000 in
theorem l_case25 {L p : Nat} {xs : Nat → Int32} {w : pm_W} {fs : List Value} (hp : p + 5 ≤ L) (hL : L ≤ 2560) (hJ : pm_J w) (h0 : w[0]? = some (.inr (11, fs))) (k : ∀ w1, pm_J w1 → pm_V (some (L, xs)) 40 186 1303 [.retAddr 0, .ref 0, .ref 59, .int (nI p)] [] w1 (fun rv _ => rv = some (.int 1))) : pm_V (some (L, xs)) 40 186 901 [.retAddr 0, .ref 0, .ref 59, .int (nI p)] [] w (fun rv _ => rv = some (.int 1)) := by
  refine v_aload_n rfl rfl ?_
  refine v_saload_n rfl rfl ?_
  refine v_iload_n rfl rfl ?_
  refine v_iconst (v := 1) rfl (by decide) ?_
  refine v_iadd rfl ?_
  refine v_sld (n := p + 1) rfl (s_ix (by omega) rfl (by omega)) (by omega) ?_
  refine v_callV rfl (q_days (xs (p + 1)) hJ) rfl rfl h0 rfl rfl (by decide) (fun rv w1 hq => ?_)
  obtain ⟨⟨fs1, h59⟩, v, rfl, hm⟩ := hq
  refine v_pop rfl rfl ?_
  refine v_aload_n rfl rfl ?_
  refine v_saload_n rfl rfl ?_
  refine v_iload_n rfl rfl ?_
  refine v_iconst (v := 1) rfl (by decide) ?_
  refine v_iadd rfl ?_
  refine v_sld (n := p + 1) rfl (s_ix (by omega) rfl (by omega)) (by omega) ?_
  refine v_callV rfl hm rfl rfl h59 rfl rfl (by decide) (fun r2 w2 hq2 => ?_)
  obtain ⟨rfl, hJ2⟩ := hq2
  refine v_pop rfl rfl ?_
  refine v_goto rfl ?_
  exact k w2 hJ2
set_option maxRecDepth 100000 in
theorem l_case26 {L p : Nat} {xs : Nat → Int32} {w : pm_W} {fs : List Value} (hp : p + 5 ≤ L) (hL : L ≤ 2560) (hJ : pm_J w) (h0 : w[0]? = some (.inr (11, fs))) (k : ∀ w1, pm_J w1 → pm_V (some (L, xs)) 40 186 1303 [.retAddr 0, .ref 0, .ref 59, .int (nI p)] [] w1 (fun rv _ => rv = some (.int 1))) : pm_V (some (L, xs)) 40 186 924 [.retAddr 0, .ref 0, .ref 59, .int (nI p)] [] w (fun rv _ => rv = some (.int 1)) := by
  refine v_aload_n rfl rfl ?_
  refine v_saload_n rfl rfl ?_
  refine v_iload_n rfl rfl ?_
  refine v_iconst (v := 1) rfl (by decide) ?_
  refine v_iadd rfl ?_
  refine v_sld (n := p + 1) rfl (s_ix (by omega) rfl (by omega)) (by omega) ?_
  refine v_saload_n rfl rfl ?_
  refine v_iload_n rfl rfl ?_
  refine v_iconst (v := 2) rfl (by decide) ?_
  refine v_iadd rfl ?_
  refine v_sld (n := p + 2) rfl (s_ix (by omega) rfl (by omega)) (by omega) ?_
  refine v_saload_n rfl rfl ?_
  refine v_iload_n rfl rfl ?_
  refine v_iconst (v := 3) rfl (by decide) ?_
  refine v_iadd rfl ?_
  refine v_sld (n := p + 3) rfl (s_ix (by omega) rfl (by omega)) (by omega) ?_
  refine v_callV rfl (q_law (xs (p + 1)) (xs (p + 2)) (xs (p + 3)) hJ) rfl rfl h0 rfl rfl (by decide) (fun rv w1 hq => ?_)
  obtain ⟨⟨fs1, h59⟩, v, rfl, hm⟩ := hq
  refine v_pop rfl rfl ?_
  refine v_aload_n rfl rfl ?_
  refine v_saload_n rfl rfl ?_
  refine v_iload_n rfl rfl ?_
  refine v_iconst (v := 1) rfl (by decide) ?_
  refine v_iadd rfl ?_
  refine v_sld (n := p + 1) rfl (s_ix (by omega) rfl (by omega)) (by omega) ?_
  refine v_saload_n rfl rfl ?_
  refine v_iload_n rfl rfl ?_
  refine v_iconst (v := 2) rfl (by decide) ?_
  refine v_iadd rfl ?_
  refine v_sld (n := p + 2) rfl (s_ix (by omega) rfl (by omega)) (by omega) ?_
  refine v_saload_n rfl rfl ?_
  refine v_iload_n rfl rfl ?_
  refine v_iconst (v := 3) rfl (by decide) ?_
  refine v_iadd rfl ?_
  refine v_sld (n := p + 3) rfl (s_ix (by omega) rfl (by omega)) (by omega) ?_
  refine v_callV rfl hm rfl rfl h59 rfl rfl (by decide) (fun r2 w2 hq2 => ?_)
  obtain ⟨rfl, hJ2⟩ := hq2
  refine v_pop rfl rfl ?_
  refine v_goto rfl ?_
  exact k w2 hJ2
set_option maxRecDepth 100000 in
theorem l_case27 {L p : Nat} {xs : Nat → Int32} {w : pm_W} {fs : List Value} (hp : p + 5 ≤ L) (hL : L ≤ 2560) (hJ : pm_J w) (h0 : w[0]? = some (.inr (11, fs))) (k : ∀ w1, pm_J w1 → pm_V (some (L, xs)) 40 186 1303 [.retAddr 0, .ref 0, .ref 59, .int (nI p)] [] w1 (fun rv _ => rv = some (.int 1))) : pm_V (some (L, xs)) 40 186 967 [.retAddr 0, .ref 0, .ref 59, .int (nI p)] [] w (fun rv _ => rv = some (.int 1)) := by
  refine v_aload_n rfl rfl ?_
  refine v_saload_n rfl rfl ?_
  refine v_iload_n rfl rfl ?_
  refine v_iconst (v := 1) rfl (by decide) ?_
  refine v_iadd rfl ?_
  refine v_sld (n := p + 1) rfl (s_ix (by omega) rfl (by omega)) (by omega) ?_
  refine v_saload_n rfl rfl ?_
  refine v_iload_n rfl rfl ?_
  refine v_iconst (v := 2) rfl (by decide) ?_
  refine v_iadd rfl ?_
  refine v_sld (n := p + 2) rfl (s_ix (by omega) rfl (by omega)) (by omega) ?_
  refine v_if_eq rfl (fun hz978 => ?_) (fun hz978 => ?_)
  · refine v_iconst (v := 0) rfl (by decide) ?_
    refine v_saload_n rfl rfl ?_
    refine v_iload_n rfl rfl ?_
    refine v_iconst (v := 3) rfl (by decide) ?_
    refine v_iadd rfl ?_
    refine v_sld (n := p + 3) rfl (s_ix (by omega) rfl (by omega)) (by omega) ?_
    refine v_saload_n rfl rfl ?_
    refine v_iload_n rfl rfl ?_
    refine v_iconst (v := 4) rfl (by decide) ?_
    refine v_iadd rfl ?_
    refine v_sld (n := p + 4) rfl (s_ix (by omega) rfl (by omega)) (by omega) ?_
    refine v_callV rfl (q_silk (xs (p + 1)) (0 : Int32) (xs (p + 3)) (xs (p + 4)) hJ) rfl rfl h0 rfl rfl (by decide) (fun rv w1 hq => ?_)
    obtain ⟨⟨fs1, h59⟩, v, rfl, hm⟩ := hq
    refine v_pop rfl rfl ?_
    refine v_aload_n rfl rfl ?_
    refine v_saload_n rfl rfl ?_
    refine v_iload_n rfl rfl ?_
    refine v_iconst (v := 1) rfl (by decide) ?_
    refine v_iadd rfl ?_
    refine v_sld (n := p + 1) rfl (s_ix (by omega) rfl (by omega)) (by omega) ?_
    refine v_saload_n rfl rfl ?_
    refine v_iload_n rfl rfl ?_
    refine v_iconst (v := 2) rfl (by decide) ?_
    refine v_iadd rfl ?_
    refine v_sld (n := p + 2) rfl (s_ix (by omega) rfl (by omega)) (by omega) ?_
    refine v_if_eq rfl (fun _ => ?_) (fun hx => absurd hz978 hx)
    refine v_iconst (v := 0) rfl (by decide) ?_
    refine v_saload_n rfl rfl ?_
    refine v_iload_n rfl rfl ?_
    refine v_iconst (v := 3) rfl (by decide) ?_
    refine v_iadd rfl ?_
    refine v_sld (n := p + 3) rfl (s_ix (by omega) rfl (by omega)) (by omega) ?_
    refine v_saload_n rfl rfl ?_
    refine v_iload_n rfl rfl ?_
    refine v_iconst (v := 4) rfl (by decide) ?_
    refine v_iadd rfl ?_
    refine v_sld (n := p + 4) rfl (s_ix (by omega) rfl (by omega)) (by omega) ?_
    refine v_callV rfl hm rfl rfl h59 rfl rfl (by decide) (fun r2 w2 hq2 => ?_)
    obtain ⟨rfl, hJ2⟩ := hq2
    refine v_pop rfl rfl ?_
    refine v_goto rfl ?_
    exact k w2 hJ2
  · refine v_iconst (v := 1) rfl (by decide) ?_
    refine v_goto rfl ?_
    refine v_saload_n rfl rfl ?_
    refine v_iload_n rfl rfl ?_
    refine v_iconst (v := 3) rfl (by decide) ?_
    refine v_iadd rfl ?_
    refine v_sld (n := p + 3) rfl (s_ix (by omega) rfl (by omega)) (by omega) ?_
    refine v_saload_n rfl rfl ?_
    refine v_iload_n rfl rfl ?_
    refine v_iconst (v := 4) rfl (by decide) ?_
    refine v_iadd rfl ?_
    refine v_sld (n := p + 4) rfl (s_ix (by omega) rfl (by omega)) (by omega) ?_
    refine v_callV rfl (q_silk (xs (p + 1)) (1 : Int32) (xs (p + 3)) (xs (p + 4)) hJ) rfl rfl h0 rfl rfl (by decide) (fun rv w1 hq => ?_)
    obtain ⟨⟨fs1, h59⟩, v, rfl, hm⟩ := hq
    refine v_pop rfl rfl ?_
    refine v_aload_n rfl rfl ?_
    refine v_saload_n rfl rfl ?_
    refine v_iload_n rfl rfl ?_
    refine v_iconst (v := 1) rfl (by decide) ?_
    refine v_iadd rfl ?_
    refine v_sld (n := p + 1) rfl (s_ix (by omega) rfl (by omega)) (by omega) ?_
    refine v_saload_n rfl rfl ?_
    refine v_iload_n rfl rfl ?_
    refine v_iconst (v := 2) rfl (by decide) ?_
    refine v_iadd rfl ?_
    refine v_sld (n := p + 2) rfl (s_ix (by omega) rfl (by omega)) (by omega) ?_
    refine v_if_eq rfl (fun hx => absurd hx hz978) (fun _ => ?_)
    refine v_iconst (v := 1) rfl (by decide) ?_
    refine v_goto rfl ?_
    refine v_saload_n rfl rfl ?_
    refine v_iload_n rfl rfl ?_
    refine v_iconst (v := 3) rfl (by decide) ?_
    refine v_iadd rfl ?_
    refine v_sld (n := p + 3) rfl (s_ix (by omega) rfl (by omega)) (by omega) ?_
    refine v_saload_n rfl rfl ?_
    refine v_iload_n rfl rfl ?_
    refine v_iconst (v := 4) rfl (by decide) ?_
    refine v_iadd rfl ?_
    refine v_sld (n := p + 4) rfl (s_ix (by omega) rfl (by omega)) (by omega) ?_
    refine v_callV rfl hm rfl rfl h59 rfl rfl (by decide) (fun r2 w2 hq2 => ?_)
    obtain ⟨rfl, hJ2⟩ := hq2
    refine v_pop rfl rfl ?_
    refine v_goto rfl ?_
    exact k w2 hJ2
set_option maxRecDepth 100000 in
theorem l_case28 {L p : Nat} {xs : Nat → Int32} {w : pm_W} {fs : List Value} (hp : p + 5 ≤ L) (hL : L ≤ 2560) (hJ : pm_J w) (h0 : w[0]? = some (.inr (11, fs))) (k : ∀ w1, pm_J w1 → pm_V (some (L, xs)) 40 186 1303 [.retAddr 0, .ref 0, .ref 59, .int (nI p)] [] w1 (fun rv _ => rv = some (.int 1))) : pm_V (some (L, xs)) 40 186 1036 [.retAddr 0, .ref 0, .ref 59, .int (nI p)] [] w (fun rv _ => rv = some (.int 1)) := by
  refine v_aload_n rfl rfl ?_
  refine v_saload_n rfl rfl ?_
  refine v_iload_n rfl rfl ?_
  refine v_iconst (v := 1) rfl (by decide) ?_
  refine v_iadd rfl ?_
  refine v_sld (n := p + 1) rfl (s_ix (by omega) rfl (by omega)) (by omega) ?_
  refine v_saload_n rfl rfl ?_
  refine v_iload_n rfl rfl ?_
  refine v_iconst (v := 2) rfl (by decide) ?_
  refine v_iadd rfl ?_
  refine v_sld (n := p + 2) rfl (s_ix (by omega) rfl (by omega)) (by omega) ?_
  refine v_callV rfl (q_account (xs (p + 1)) (xs (p + 2)) hJ) rfl rfl h0 rfl rfl (by decide) (fun rv w1 hq => ?_)
  obtain ⟨⟨fs1, h59⟩, v, rfl, hm⟩ := hq
  refine v_pop rfl rfl ?_
  refine v_aload_n rfl rfl ?_
  refine v_saload_n rfl rfl ?_
  refine v_iload_n rfl rfl ?_
  refine v_iconst (v := 1) rfl (by decide) ?_
  refine v_iadd rfl ?_
  refine v_sld (n := p + 1) rfl (s_ix (by omega) rfl (by omega)) (by omega) ?_
  refine v_saload_n rfl rfl ?_
  refine v_iload_n rfl rfl ?_
  refine v_iconst (v := 2) rfl (by decide) ?_
  refine v_iadd rfl ?_
  refine v_sld (n := p + 2) rfl (s_ix (by omega) rfl (by omega)) (by omega) ?_
  refine v_callV rfl hm rfl rfl h59 rfl rfl (by decide) (fun r2 w2 hq2 => ?_)
  obtain ⟨rfl, hJ2⟩ := hq2
  refine v_pop rfl rfl ?_
  refine v_goto rfl ?_
  exact k w2 hJ2
set_option maxRecDepth 100000 in
theorem l_case29 {L p : Nat} {xs : Nat → Int32} {w : pm_W} {fs : List Value} (hp : p + 5 ≤ L) (hL : L ≤ 2560) (hJ : pm_J w) (h0 : w[0]? = some (.inr (11, fs))) (k : ∀ w1, pm_J w1 → pm_V (some (L, xs)) 40 186 1303 [.retAddr 0, .ref 0, .ref 59, .int (nI p)] [] w1 (fun rv _ => rv = some (.int 1))) : pm_V (some (L, xs)) 40 186 1069 [.retAddr 0, .ref 0, .ref 59, .int (nI p)] [] w (fun rv _ => rv = some (.int 1)) := by
  refine v_aload_n rfl rfl ?_
  refine v_saload_n rfl rfl ?_
  refine v_iload_n rfl rfl ?_
  refine v_iconst (v := 1) rfl (by decide) ?_
  refine v_iadd rfl ?_
  refine v_sld (n := p + 1) rfl (s_ix (by omega) rfl (by omega)) (by omega) ?_
  refine v_saload_n rfl rfl ?_
  refine v_iload_n rfl rfl ?_
  refine v_iconst (v := 2) rfl (by decide) ?_
  refine v_iadd rfl ?_
  refine v_sld (n := p + 2) rfl (s_ix (by omega) rfl (by omega)) (by omega) ?_
  refine v_callV rfl (q_warp (xs (p + 1)) (xs (p + 2)) hJ) rfl rfl h0 rfl rfl (by decide) (fun rv w1 hq => ?_)
  obtain ⟨⟨fs1, h59⟩, v, rfl, hm⟩ := hq
  refine v_pop rfl rfl ?_
  refine v_aload_n rfl rfl ?_
  refine v_saload_n rfl rfl ?_
  refine v_iload_n rfl rfl ?_
  refine v_iconst (v := 1) rfl (by decide) ?_
  refine v_iadd rfl ?_
  refine v_sld (n := p + 1) rfl (s_ix (by omega) rfl (by omega)) (by omega) ?_
  refine v_saload_n rfl rfl ?_
  refine v_iload_n rfl rfl ?_
  refine v_iconst (v := 2) rfl (by decide) ?_
  refine v_iadd rfl ?_
  refine v_sld (n := p + 2) rfl (s_ix (by omega) rfl (by omega)) (by omega) ?_
  refine v_callV rfl hm rfl rfl h59 rfl rfl (by decide) (fun r2 w2 hq2 => ?_)
  obtain ⟨rfl, hJ2⟩ := hq2
  refine v_pop rfl rfl ?_
  refine v_goto rfl ?_
  exact k w2 hJ2
set_option maxRecDepth 100000 in
theorem l_case30 {L p : Nat} {xs : Nat → Int32} {w : pm_W} {fs : List Value} (hp : p + 5 ≤ L) (hL : L ≤ 2560) (hJ : pm_J w) (h0 : w[0]? = some (.inr (11, fs))) (k : ∀ w1, pm_J w1 → pm_V (some (L, xs)) 40 186 1303 [.retAddr 0, .ref 0, .ref 59, .int (nI p)] [] w1 (fun rv _ => rv = some (.int 1))) : pm_V (some (L, xs)) 40 186 1102 [.retAddr 0, .ref 0, .ref 59, .int (nI p)] [] w (fun rv _ => rv = some (.int 1)) := by
  refine v_aload_n rfl rfl ?_
  refine v_saload_n rfl rfl ?_
  refine v_iload_n rfl rfl ?_
  refine v_iconst (v := 1) rfl (by decide) ?_
  refine v_iadd rfl ?_
  refine v_sld (n := p + 1) rfl (s_ix (by omega) rfl (by omega)) (by omega) ?_
  refine v_callV rfl (q_cards (xs (p + 1)) hJ) rfl rfl h0 rfl rfl (by decide) (fun rv w1 hq => ?_)
  obtain ⟨⟨fs1, h59⟩, v, rfl, hm⟩ := hq
  refine v_pop rfl rfl ?_
  refine v_aload_n rfl rfl ?_
  refine v_saload_n rfl rfl ?_
  refine v_iload_n rfl rfl ?_
  refine v_iconst (v := 1) rfl (by decide) ?_
  refine v_iadd rfl ?_
  refine v_sld (n := p + 1) rfl (s_ix (by omega) rfl (by omega)) (by omega) ?_
  refine v_callV rfl hm rfl rfl h59 rfl rfl (by decide) (fun r2 w2 hq2 => ?_)
  obtain ⟨rfl, hJ2⟩ := hq2
  refine v_pop rfl rfl ?_
  refine v_goto rfl ?_
  exact k w2 hJ2
set_option maxRecDepth 100000 in
theorem l_case31 {L p : Nat} {xs : Nat → Int32} {w : pm_W} {fs : List Value} (hp : p + 5 ≤ L) (hL : L ≤ 2560) (hJ : pm_J w) (h0 : w[0]? = some (.inr (11, fs))) (k : ∀ w1, pm_J w1 → pm_V (some (L, xs)) 40 186 1303 [.retAddr 0, .ref 0, .ref 59, .int (nI p)] [] w1 (fun rv _ => rv = some (.int 1))) : pm_V (some (L, xs)) 40 186 1125 [.retAddr 0, .ref 0, .ref 59, .int (nI p)] [] w (fun rv _ => rv = some (.int 1)) := by
  refine v_aload_n rfl rfl ?_
  refine v_saload_n rfl rfl ?_
  refine v_iload_n rfl rfl ?_
  refine v_iconst (v := 1) rfl (by decide) ?_
  refine v_iadd rfl ?_
  refine v_sld (n := p + 1) rfl (s_ix (by omega) rfl (by omega)) (by omega) ?_
  refine v_callV rfl (q_hang (xs (p + 1)) hJ) rfl rfl h0 rfl rfl (by decide) (fun rv w1 hq => ?_)
  obtain ⟨⟨fs1, h59⟩, v, rfl, hm⟩ := hq
  refine v_pop rfl rfl ?_
  refine v_aload_n rfl rfl ?_
  refine v_saload_n rfl rfl ?_
  refine v_iload_n rfl rfl ?_
  refine v_iconst (v := 1) rfl (by decide) ?_
  refine v_iadd rfl ?_
  refine v_sld (n := p + 1) rfl (s_ix (by omega) rfl (by omega)) (by omega) ?_
  refine v_callV rfl hm rfl rfl h59 rfl rfl (by decide) (fun r2 w2 hq2 => ?_)
  obtain ⟨rfl, hJ2⟩ := hq2
  refine v_pop rfl rfl ?_
  refine v_goto rfl ?_
  exact k w2 hJ2
set_option maxRecDepth 100000 in
theorem l_case32 {L p : Nat} {xs : Nat → Int32} {w : pm_W} {fs : List Value} (hp : p + 5 ≤ L) (hL : L ≤ 2560) (hJ : pm_J w) (h0 : w[0]? = some (.inr (11, fs))) (k : ∀ w1, pm_J w1 → pm_V (some (L, xs)) 40 186 1303 [.retAddr 0, .ref 0, .ref 59, .int (nI p)] [] w1 (fun rv _ => rv = some (.int 1))) : pm_V (some (L, xs)) 40 186 1148 [.retAddr 0, .ref 0, .ref 59, .int (nI p)] [] w (fun rv _ => rv = some (.int 1)) := by
  refine v_aload_n rfl rfl ?_
  refine v_saload_n rfl rfl ?_
  refine v_iload_n rfl rfl ?_
  refine v_iconst (v := 1) rfl (by decide) ?_
  refine v_iadd rfl ?_
  refine v_sld (n := p + 1) rfl (s_ix (by omega) rfl (by omega)) (by omega) ?_
  refine v_saload_n rfl rfl ?_
  refine v_iload_n rfl rfl ?_
  refine v_iconst (v := 2) rfl (by decide) ?_
  refine v_iadd rfl ?_
  refine v_sld (n := p + 2) rfl (s_ix (by omega) rfl (by omega)) (by omega) ?_
  refine v_callV rfl (q_cut (xs (p + 1)) (xs (p + 2)) hJ) rfl rfl h0 rfl rfl (by decide) (fun rv w1 hq => ?_)
  obtain ⟨⟨fs1, h59⟩, v, rfl, hm⟩ := hq
  refine v_pop rfl rfl ?_
  refine v_aload_n rfl rfl ?_
  refine v_saload_n rfl rfl ?_
  refine v_iload_n rfl rfl ?_
  refine v_iconst (v := 1) rfl (by decide) ?_
  refine v_iadd rfl ?_
  refine v_sld (n := p + 1) rfl (s_ix (by omega) rfl (by omega)) (by omega) ?_
  refine v_saload_n rfl rfl ?_
  refine v_iload_n rfl rfl ?_
  refine v_iconst (v := 2) rfl (by decide) ?_
  refine v_iadd rfl ?_
  refine v_sld (n := p + 2) rfl (s_ix (by omega) rfl (by omega)) (by omega) ?_
  refine v_callV rfl hm rfl rfl h59 rfl rfl (by decide) (fun r2 w2 hq2 => ?_)
  obtain ⟨rfl, hJ2⟩ := hq2
  refine v_pop rfl rfl ?_
  refine v_goto rfl ?_
  exact k w2 hJ2
set_option maxRecDepth 100000 in
theorem l_case33 {L p : Nat} {xs : Nat → Int32} {w : pm_W} {fs : List Value} (hp : p + 5 ≤ L) (hL : L ≤ 2560) (hJ : pm_J w) (h0 : w[0]? = some (.inr (11, fs))) (k : ∀ w1, pm_J w1 → pm_V (some (L, xs)) 40 186 1303 [.retAddr 0, .ref 0, .ref 59, .int (nI p)] [] w1 (fun rv _ => rv = some (.int 1))) : pm_V (some (L, xs)) 40 186 1181 [.retAddr 0, .ref 0, .ref 59, .int (nI p)] [] w (fun rv _ => rv = some (.int 1)) := by
  refine v_aload_n rfl rfl ?_
  refine v_saload_n rfl rfl ?_
  refine v_iload_n rfl rfl ?_
  refine v_iconst (v := 1) rfl (by decide) ?_
  refine v_iadd rfl ?_
  refine v_sld (n := p + 1) rfl (s_ix (by omega) rfl (by omega)) (by omega) ?_
  refine v_saload_n rfl rfl ?_
  refine v_iload_n rfl rfl ?_
  refine v_iconst (v := 2) rfl (by decide) ?_
  refine v_iadd rfl ?_
  refine v_sld (n := p + 2) rfl (s_ix (by omega) rfl (by omega)) (by omega) ?_
  refine v_callV rfl (q_join (xs (p + 1)) (xs (p + 2)) hJ) rfl rfl h0 rfl rfl (by decide) (fun rv w1 hq => ?_)
  obtain ⟨⟨fs1, h59⟩, v, rfl, hm⟩ := hq
  refine v_pop rfl rfl ?_
  refine v_aload_n rfl rfl ?_
  refine v_saload_n rfl rfl ?_
  refine v_iload_n rfl rfl ?_
  refine v_iconst (v := 1) rfl (by decide) ?_
  refine v_iadd rfl ?_
  refine v_sld (n := p + 1) rfl (s_ix (by omega) rfl (by omega)) (by omega) ?_
  refine v_saload_n rfl rfl ?_
  refine v_iload_n rfl rfl ?_
  refine v_iconst (v := 2) rfl (by decide) ?_
  refine v_iadd rfl ?_
  refine v_sld (n := p + 2) rfl (s_ix (by omega) rfl (by omega)) (by omega) ?_
  refine v_callV rfl hm rfl rfl h59 rfl rfl (by decide) (fun r2 w2 hq2 => ?_)
  obtain ⟨rfl, hJ2⟩ := hq2
  refine v_pop rfl rfl ?_
  refine v_goto rfl ?_
  exact k w2 hJ2
set_option maxRecDepth 100000 in
theorem l_case34 {L p : Nat} {xs : Nat → Int32} {w : pm_W} {fs : List Value} (hp : p + 5 ≤ L) (hL : L ≤ 2560) (hJ : pm_J w) (h0 : w[0]? = some (.inr (11, fs))) (k : ∀ w1, pm_J w1 → pm_V (some (L, xs)) 40 186 1303 [.retAddr 0, .ref 0, .ref 59, .int (nI p)] [] w1 (fun rv _ => rv = some (.int 1))) : pm_V (some (L, xs)) 40 186 1214 [.retAddr 0, .ref 0, .ref 59, .int (nI p)] [] w (fun rv _ => rv = some (.int 1)) := by
  refine v_aload_n rfl rfl ?_
  refine v_saload_n rfl rfl ?_
  refine v_iload_n rfl rfl ?_
  refine v_iconst (v := 1) rfl (by decide) ?_
  refine v_iadd rfl ?_
  refine v_sld (n := p + 1) rfl (s_ix (by omega) rfl (by omega)) (by omega) ?_
  refine v_saload_n rfl rfl ?_
  refine v_iload_n rfl rfl ?_
  refine v_iconst (v := 2) rfl (by decide) ?_
  refine v_iadd rfl ?_
  refine v_sld (n := p + 2) rfl (s_ix (by omega) rfl (by omega)) (by omega) ?_
  refine v_callV rfl (q_beamOf (xs (p + 1)) (xs (p + 2)) hJ) rfl rfl h0 rfl rfl (by decide) (fun rv w1 hq => ?_)
  obtain ⟨⟨fs1, h59⟩, v, rfl, hm⟩ := hq
  refine v_pop rfl rfl ?_
  refine v_aload_n rfl rfl ?_
  refine v_saload_n rfl rfl ?_
  refine v_iload_n rfl rfl ?_
  refine v_iconst (v := 1) rfl (by decide) ?_
  refine v_iadd rfl ?_
  refine v_sld (n := p + 1) rfl (s_ix (by omega) rfl (by omega)) (by omega) ?_
  refine v_saload_n rfl rfl ?_
  refine v_iload_n rfl rfl ?_
  refine v_iconst (v := 2) rfl (by decide) ?_
  refine v_iadd rfl ?_
  refine v_sld (n := p + 2) rfl (s_ix (by omega) rfl (by omega)) (by omega) ?_
  refine v_callV rfl hm rfl rfl h59 rfl rfl (by decide) (fun r2 w2 hq2 => ?_)
  obtain ⟨⟨v2, rfl⟩, hJ2⟩ := hq2
  refine v_pop rfl rfl ?_
  refine v_goto rfl ?_
  exact k w2 hJ2
set_option maxRecDepth 100000 in
theorem l_case35 {L p : Nat} {xs : Nat → Int32} {w : pm_W} {fs : List Value} (hp : p + 5 ≤ L) (hL : L ≤ 2560) (hJ : pm_J w) (h0 : w[0]? = some (.inr (11, fs))) (k : ∀ w1, pm_J w1 → pm_V (some (L, xs)) 40 186 1303 [.retAddr 0, .ref 0, .ref 59, .int (nI p)] [] w1 (fun rv _ => rv = some (.int 1))) : pm_V (some (L, xs)) 40 186 1247 [.retAddr 0, .ref 0, .ref 59, .int (nI p)] [] w (fun rv _ => rv = some (.int 1)) := by
  refine v_aload_n rfl rfl ?_
  refine v_saload_n rfl rfl ?_
  refine v_iload_n rfl rfl ?_
  refine v_iconst (v := 1) rfl (by decide) ?_
  refine v_iadd rfl ?_
  refine v_sld (n := p + 1) rfl (s_ix (by omega) rfl (by omega)) (by omega) ?_
  refine v_saload_n rfl rfl ?_
  refine v_iload_n rfl rfl ?_
  refine v_iconst (v := 2) rfl (by decide) ?_
  refine v_iadd rfl ?_
  refine v_sld (n := p + 2) rfl (s_ix (by omega) rfl (by omega)) (by omega) ?_
  refine v_callV rfl (q_orderOf (xs (p + 1)) (xs (p + 2)) hJ) rfl rfl h0 rfl rfl (by decide) (fun rv w1 hq => ?_)
  obtain ⟨⟨fs1, h59⟩, v, rfl, hm⟩ := hq
  refine v_pop rfl rfl ?_
  refine v_aload_n rfl rfl ?_
  refine v_saload_n rfl rfl ?_
  refine v_iload_n rfl rfl ?_
  refine v_iconst (v := 1) rfl (by decide) ?_
  refine v_iadd rfl ?_
  refine v_sld (n := p + 1) rfl (s_ix (by omega) rfl (by omega)) (by omega) ?_
  refine v_saload_n rfl rfl ?_
  refine v_iload_n rfl rfl ?_
  refine v_iconst (v := 2) rfl (by decide) ?_
  refine v_iadd rfl ?_
  refine v_sld (n := p + 2) rfl (s_ix (by omega) rfl (by omega)) (by omega) ?_
  refine v_callV rfl hm rfl rfl h59 rfl rfl (by decide) (fun r2 w2 hq2 => ?_)
  obtain ⟨rfl, hJ2⟩ := hq2
  refine v_pop rfl rfl ?_
  refine v_goto rfl ?_
  exact k w2 hJ2
set_option maxRecDepth 100000 in
theorem l_case36 {L p : Nat} {xs : Nat → Int32} {w : pm_W} {fs : List Value} (hp : p + 5 ≤ L) (hL : L ≤ 2560) (hJ : pm_J w) (h0 : w[0]? = some (.inr (11, fs))) (k : ∀ w1, pm_J w1 → pm_V (some (L, xs)) 40 186 1303 [.retAddr 0, .ref 0, .ref 59, .int (nI p)] [] w1 (fun rv _ => rv = some (.int 1))) : pm_V (some (L, xs)) 40 186 1280 [.retAddr 0, .ref 0, .ref 59, .int (nI p)] [] w (fun rv _ => rv = some (.int 1)) := by
  refine v_aload_n rfl rfl ?_
  refine v_saload_n rfl rfl ?_
  refine v_iload_n rfl rfl ?_
  refine v_iconst (v := 1) rfl (by decide) ?_
  refine v_iadd rfl ?_
  refine v_sld (n := p + 1) rfl (s_ix (by omega) rfl (by omega)) (by omega) ?_
  refine v_callV rfl (q_count (xs (p + 1)) hJ) rfl rfl h0 rfl rfl (by decide) (fun rv w1 hq => ?_)
  obtain ⟨⟨fs1, h59⟩, v, rfl, hm⟩ := hq
  refine v_pop rfl rfl ?_
  refine v_aload_n rfl rfl ?_
  refine v_saload_n rfl rfl ?_
  refine v_iload_n rfl rfl ?_
  refine v_iconst (v := 1) rfl (by decide) ?_
  refine v_iadd rfl ?_
  refine v_sld (n := p + 1) rfl (s_ix (by omega) rfl (by omega)) (by omega) ?_
  refine v_callV rfl hm rfl rfl h59 rfl rfl (by decide) (fun r2 w2 hq2 => ?_)
  obtain ⟨⟨v2, rfl⟩, hJ2⟩ := hq2
  refine v_pop rfl rfl ?_
  refine v_goto rfl ?_
  exact k w2 hJ2

