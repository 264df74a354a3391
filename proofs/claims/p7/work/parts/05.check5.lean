set_option maxRecDepth 100000 in
theorem pm_k185_0 : pm_chkM pm_t185 (yJ7_fill_d0a16, cJ7_fill_d0a16, 5, none, 15, 23) 0 23 = true := by decide +kernel
theorem pm_k185 {n : Nat} {e : pm_E} (h : pm_t185 n = some e) : pm_chk yJ7_fill_d0a16 cJ7_fill_d0a16 none 15 n e = true := by
  rcases Nat.lt_or_ge n 23 with hn | hn
  · have q := pm_chkM_get pm_k185_0 h (Nat.zero_le _) (by rw [Nat.zero_add]; exact hn)
    exact q
  · exact absurd h (by rw [pm_t185_out hn]; exact fun q => by cases q)
set_option maxRecDepth 100000 in
theorem pm_k186_0 : pm_chkM pm_t186 (yL_law, cL_law, 4, (some .boolean), 13, 1311) 0 60 = true := by decide +kernel
set_option maxRecDepth 100000 in
theorem pm_k186_60 : pm_chkM pm_t186 (yL_law, cL_law, 4, (some .boolean), 13, 1311) 60 60 = true := by decide +kernel
set_option maxRecDepth 100000 in
theorem pm_k186_120 : pm_chkM pm_t186 (yL_law, cL_law, 4, (some .boolean), 13, 1311) 120 60 = true := by decide +kernel
set_option maxRecDepth 100000 in
theorem pm_k186_180 : pm_chkM pm_t186 (yL_law, cL_law, 4, (some .boolean), 13, 1311) 180 60 = true := by decide +kernel
set_option maxRecDepth 100000 in
theorem pm_k186_240 : pm_chkM pm_t186 (yL_law, cL_law, 4, (some .boolean), 13, 1311) 240 60 = true := by decide +kernel
set_option maxRecDepth 100000 in
theorem pm_k186_300 : pm_chkM pm_t186 (yL_law, cL_law, 4, (some .boolean), 13, 1311) 300 60 = true := by decide +kernel
set_option maxRecDepth 100000 in
theorem pm_k186_360 : pm_chkM pm_t186 (yL_law, cL_law, 4, (some .boolean), 13, 1311) 360 60 = true := by decide +kernel
set_option maxRecDepth 100000 in
theorem pm_k186_420 : pm_chkM pm_t186 (yL_law, cL_law, 4, (some .boolean), 13, 1311) 420 60 = true := by decide +kernel
set_option maxRecDepth 100000 in
theorem pm_k186_480 : pm_chkM pm_t186 (yL_law, cL_law, 4, (some .boolean), 13, 1311) 480 60 = true := by decide +kernel
set_option maxRecDepth 100000 in
theorem pm_k186_540 : pm_chkM pm_t186 (yL_law, cL_law, 4, (some .boolean), 13, 1311) 540 60 = true := by decide +kernel
set_option maxRecDepth 100000 in
theorem pm_k186_600 : pm_chkM pm_t186 (yL_law, cL_law, 4, (some .boolean), 13, 1311) 600 60 = true := by decide +kernel
set_option maxRecDepth 100000 in
theorem pm_k186_660 : pm_chkM pm_t186 (yL_law, cL_law, 4, (some .boolean), 13, 1311) 660 60 = true := by decide +kernel
set_option maxRecDepth 100000 in
theorem pm_k186_720 : pm_chkM pm_t186 (yL_law, cL_law, 4, (some .boolean), 13, 1311) 720 60 = true := by decide +kernel
set_option maxRecDepth 100000 in
theorem pm_k186_780 : pm_chkM pm_t186 (yL_law, cL_law, 4, (some .boolean), 13, 1311) 780 60 = true := by decide +kernel
set_option maxRecDepth 100000 in
theorem pm_k186_840 : pm_chkM pm_t186 (yL_law, cL_law, 4, (some .boolean), 13, 1311) 840 60 = true := by decide +kernel
set_option maxRecDepth 100000 in
theorem pm_k186_900 : pm_chkM pm_t186 (yL_law, cL_law, 4, (some .boolean), 13, 1311) 900 60 = true := by decide +kernel
set_option maxRecDepth 100000 in
theorem pm_k186_960 : pm_chkM pm_t186 (yL_law, cL_law, 4, (some .boolean), 13, 1311) 960 60 = true := by decide +kernel
set_option maxRecDepth 100000 in
theorem pm_k186_1020 : pm_chkM pm_t186 (yL_law, cL_law, 4, (some .boolean), 13, 1311) 1020 60 = true := by decide +kernel
set_option maxRecDepth 100000 in
theorem pm_k186_1080 : pm_chkM pm_t186 (yL_law, cL_law, 4, (some .boolean), 13, 1311) 1080 60 = true := by decide +kernel
set_option maxRecDepth 100000 in
theorem pm_k186_1140 : pm_chkM pm_t186 (yL_law, cL_law, 4, (some .boolean), 13, 1311) 1140 60 = true := by decide +kernel
set_option maxRecDepth 100000 in
theorem pm_k186_1200 : pm_chkM pm_t186 (yL_law, cL_law, 4, (some .boolean), 13, 1311) 1200 60 = true := by decide +kernel
set_option maxRecDepth 100000 in
theorem pm_k186_1260 : pm_chkM pm_t186 (yL_law, cL_law, 4, (some .boolean), 13, 1311) 1260 51 = true := by decide +kernel
theorem pm_k186 {n : Nat} {e : pm_E} (h : pm_t186 n = some e) : pm_chk yL_law cL_law (some .boolean) 13 n e = true := by
  rcases Nat.lt_or_ge n 1311 with hn | hn
  · rcases (show n < 60 ∨ (60 ≤ n ∧ n < 120) ∨ (120 ≤ n ∧ n < 180) ∨ (180 ≤ n ∧ n < 240) ∨ (240 ≤ n ∧ n < 300) ∨ (300 ≤ n ∧ n < 360) ∨ (360 ≤ n ∧ n < 420) ∨ (420 ≤ n ∧ n < 480) ∨ (480 ≤ n ∧ n < 540) ∨ (540 ≤ n ∧ n < 600) ∨ (600 ≤ n ∧ n < 660) ∨ (660 ≤ n ∧ n < 720) ∨ (720 ≤ n ∧ n < 780) ∨ (780 ≤ n ∧ n < 840) ∨ (840 ≤ n ∧ n < 900) ∨ (900 ≤ n ∧ n < 960) ∨ (960 ≤ n ∧ n < 1020) ∨ (1020 ≤ n ∧ n < 1080) ∨ (1080 ≤ n ∧ n < 1140) ∨ (1140 ≤ n ∧ n < 1200) ∨ (1200 ≤ n ∧ n < 1260) ∨ (1260 ≤ n ∧ n < 1311) by omega) with hn | hn | hn | hn | hn | hn | hn | hn | hn | hn | hn | hn | hn | hn | hn | hn | hn | hn | hn | hn | hn | hn
    · have q := pm_chkM_get pm_k186_0 h (by omega) (by omega)
      exact q
    · have q := pm_chkM_get pm_k186_60 h (by omega) (by omega)
      exact q
    · have q := pm_chkM_get pm_k186_120 h (by omega) (by omega)
      exact q
    · have q := pm_chkM_get pm_k186_180 h (by omega) (by omega)
      exact q
    · have q := pm_chkM_get pm_k186_240 h (by omega) (by omega)
      exact q
    · have q := pm_chkM_get pm_k186_300 h (by omega) (by omega)
      exact q
    · have q := pm_chkM_get pm_k186_360 h (by omega) (by omega)
      exact q
    · have q := pm_chkM_get pm_k186_420 h (by omega) (by omega)
      exact q
    · have q := pm_chkM_get pm_k186_480 h (by omega) (by omega)
      exact q
    · have q := pm_chkM_get pm_k186_540 h (by omega) (by omega)
      exact q
    · have q := pm_chkM_get pm_k186_600 h (by omega) (by omega)
      exact q
    · have q := pm_chkM_get pm_k186_660 h (by omega) (by omega)
      exact q
    · have q := pm_chkM_get pm_k186_720 h (by omega) (by omega)
      exact q
    · have q := pm_chkM_get pm_k186_780 h (by omega) (by omega)
      exact q
    · have q := pm_chkM_get pm_k186_840 h (by omega) (by omega)
      exact q
    · have q := pm_chkM_get pm_k186_900 h (by omega) (by omega)
      exact q
    · have q := pm_chkM_get pm_k186_960 h (by omega) (by omega)
      exact q
    · have q := pm_chkM_get pm_k186_1020 h (by omega) (by omega)
      exact q
    · have q := pm_chkM_get pm_k186_1080 h (by omega) (by omega)
      exact q
    · have q := pm_chkM_get pm_k186_1140 h (by omega) (by omega)
      exact q
    · have q := pm_chkM_get pm_k186_1200 h (by omega) (by omega)
      exact q
    · have q := pm_chkM_get pm_k186_1260 h (by omega) (by omega)
      exact q
  · exact absurd h (by rw [pm_t186_out hn]; exact fun q => by cases q)
