set_option maxRecDepth 100000 in
theorem pm_k133_0 : pm_chkM pm_t133 (yX12_pullOfPick, cX12_pullOfPick, 5, (some .int), 12, 49) 0 49 = true := by decide +kernel
theorem pm_k133 {n : Nat} {e : pm_E} (h : pm_t133 n = some e) : pm_chk yX12_pullOfPick cX12_pullOfPick (some .int) 12 n e = true := by
  rcases Nat.lt_or_ge n 49 with hn | hn
  · have q := pm_chkM_get pm_k133_0 h (Nat.zero_le _) (by rw [Nat.zero_add]; exact hn)
    exact q
  · exact absurd h (by rw [pm_t133_out hn]; exact fun q => by cases q)
set_option maxRecDepth 100000 in
theorem pm_k134_0 : pm_chkM pm_t134 (yX12_pull, cX12_pull, 3, (some .int), 12, 40) 0 40 = true := by decide +kernel
theorem pm_k134 {n : Nat} {e : pm_E} (h : pm_t134 n = some e) : pm_chk yX12_pull cX12_pull (some .int) 12 n e = true := by
  rcases Nat.lt_or_ge n 40 with hn | hn
  · have q := pm_chkM_get pm_k134_0 h (Nat.zero_le _) (by rw [Nat.zero_add]; exact hn)
    exact q
  · exact absurd h (by rw [pm_t134_out hn]; exact fun q => by cases q)
set_option maxRecDepth 100000 in
theorem pm_k135_0 : pm_chkM pm_t135 (yX12_pullAt, cX12_pullAt, 5, (some .int), 12, 66) 0 66 = true := by decide +kernel
theorem pm_k135 {n : Nat} {e : pm_E} (h : pm_t135 n = some e) : pm_chk yX12_pullAt cX12_pullAt (some .int) 12 n e = true := by
  rcases Nat.lt_or_ge n 66 with hn | hn
  · have q := pm_chkM_get pm_k135_0 h (Nat.zero_le _) (by rw [Nat.zero_add]; exact hn)
    exact q
  · exact absurd h (by rw [pm_t135_out hn]; exact fun q => by cases q)
set_option maxRecDepth 100000 in
theorem pm_k136_0 : pm_chkM pm_t136 (yX12_pulls, cX12_pulls, 1, (some .int), 12, 8) 0 8 = true := by decide +kernel
theorem pm_k136 {n : Nat} {e : pm_E} (h : pm_t136 n = some e) : pm_chk yX12_pulls cX12_pulls (some .int) 12 n e = true := by
  rcases Nat.lt_or_ge n 8 with hn | hn
  · have q := pm_chkM_get pm_k136_0 h (Nat.zero_le _) (by rw [Nat.zero_add]; exact hn)
    exact q
  · exact absurd h (by rw [pm_t136_out hn]; exact fun q => by cases q)
set_option maxRecDepth 100000 in
theorem pm_k137_0 : pm_chkM pm_t137 (yX12_pullOf, cX12_pullOf, 4, (some .int), 12, 54) 0 54 = true := by decide +kernel
theorem pm_k137 {n : Nat} {e : pm_E} (h : pm_t137 n = some e) : pm_chk yX12_pullOf cX12_pullOf (some .int) 12 n e = true := by
  rcases Nat.lt_or_ge n 54 with hn | hn
  · have q := pm_chkM_get pm_k137_0 h (Nat.zero_le _) (by rw [Nat.zero_add]; exact hn)
    exact q
  · exact absurd h (by rw [pm_t137_out hn]; exact fun q => by cases q)
set_option maxRecDepth 100000 in
theorem pm_k138_0 : pm_chkM pm_t138 (yX12_limit, cX12_limit, 3, (some .int), 12, 37) 0 37 = true := by decide +kernel
theorem pm_k138 {n : Nat} {e : pm_E} (h : pm_t138 n = some e) : pm_chk yX12_limit cX12_limit (some .int) 12 n e = true := by
  rcases Nat.lt_or_ge n 37 with hn | hn
  · have q := pm_chkM_get pm_k138_0 h (Nat.zero_le _) (by rw [Nat.zero_add]; exact hn)
    exact q
  · exact absurd h (by rw [pm_t138_out hn]; exact fun q => by cases q)
set_option maxRecDepth 100000 in
theorem pm_k139_0 : pm_chkM pm_t139 (yX12_begins, cX12_begins, 3, (some .boolean), 12, 33) 0 33 = true := by decide +kernel
theorem pm_k139 {n : Nat} {e : pm_E} (h : pm_t139 n = some e) : pm_chk yX12_begins cX12_begins (some .boolean) 12 n e = true := by
  rcases Nat.lt_or_ge n 33 with hn | hn
  · have q := pm_chkM_get pm_k139_0 h (Nat.zero_le _) (by rw [Nat.zero_add]; exact hn)
    exact q
  · exact absurd h (by rw [pm_t139_out hn]; exact fun q => by cases q)
set_option maxRecDepth 100000 in
theorem pm_k140_0 : pm_chkM pm_t140 (yX12_runFrom, cX12_runFrom, 4, (some .int), 12, 40) 0 40 = true := by decide +kernel
theorem pm_k140 {n : Nat} {e : pm_E} (h : pm_t140 n = some e) : pm_chk yX12_runFrom cX12_runFrom (some .int) 12 n e = true := by
  rcases Nat.lt_or_ge n 40 with hn | hn
  · have q := pm_chkM_get pm_k140_0 h (Nat.zero_le _) (by rw [Nat.zero_add]; exact hn)
    exact q
  · exact absurd h (by rw [pm_t140_out hn]; exact fun q => by cases q)
set_option maxRecDepth 100000 in
theorem pm_k141_0 : pm_chkM pm_t141 (yX12_isPlain, cX12_isPlain, 4, (some .boolean), 12, 45) 0 45 = true := by decide +kernel
theorem pm_k141 {n : Nat} {e : pm_E} (h : pm_t141 n = some e) : pm_chk yX12_isPlain cX12_isPlain (some .boolean) 12 n e = true := by
  rcases Nat.lt_or_ge n 45 with hn | hn
  · have q := pm_chkM_get pm_k141_0 h (Nat.zero_le _) (by rw [Nat.zero_add]; exact hn)
    exact q
  · exact absurd h (by rw [pm_t141_out hn]; exact fun q => by cases q)
set_option maxRecDepth 100000 in
theorem pm_k142_0 : pm_chkM pm_t142 (yX12_floats, cX12_floats, 8, (some .int), 12, 142) 0 142 = true := by decide +kernel
theorem pm_k142 {n : Nat} {e : pm_E} (h : pm_t142 n = some e) : pm_chk yX12_floats cX12_floats (some .int) 12 n e = true := by
  rcases Nat.lt_or_ge n 142 with hn | hn
  · have q := pm_chkM_get pm_k142_0 h (Nat.zero_le _) (by rw [Nat.zero_add]; exact hn)
    exact q
  · exact absurd h (by rw [pm_t142_out hn]; exact fun q => by cases q)
set_option maxRecDepth 100000 in
theorem pm_k143_0 : pm_chkM pm_t143 (yX12_fewestFrom, cX12_fewestFrom, 11, (some .int), 12, 328) 0 328 = true := by decide +kernel
theorem pm_k143 {n : Nat} {e : pm_E} (h : pm_t143 n = some e) : pm_chk yX12_fewestFrom cX12_fewestFrom (some .int) 12 n e = true := by
  rcases Nat.lt_or_ge n 328 with hn | hn
  · have q := pm_chkM_get pm_k143_0 h (Nat.zero_le _) (by rw [Nat.zero_add]; exact hn)
    exact q
  · exact absurd h (by rw [pm_t143_out hn]; exact fun q => by cases q)
set_option maxRecDepth 100000 in
theorem pm_k144_0 : pm_chkM pm_t144 (yX12_fewest, cX12_fewest, 7, (some .int), 12, 138) 0 138 = true := by decide +kernel
theorem pm_k144 {n : Nat} {e : pm_E} (h : pm_t144 n = some e) : pm_chk yX12_fewest cX12_fewest (some .int) 12 n e = true := by
  rcases Nat.lt_or_ge n 138 with hn | hn
  · have q := pm_chkM_get pm_k144_0 h (Nat.zero_le _) (by rw [Nat.zero_add]; exact hn)
    exact q
  · exact absurd h (by rw [pm_t144_out hn]; exact fun q => by cases q)
set_option maxRecDepth 100000 in
theorem pm_k145_0 : pm_chkM pm_t145 (yX12_mend, cX12_mend, 6, (some .int), 12, 90) 0 90 = true := by decide +kernel
theorem pm_k145 {n : Nat} {e : pm_E} (h : pm_t145 n = some e) : pm_chk yX12_mend cX12_mend (some .int) 12 n e = true := by
  rcases Nat.lt_or_ge n 90 with hn | hn
  · have q := pm_chkM_get pm_k145_0 h (Nat.zero_le _) (by rw [Nat.zero_add]; exact hn)
    exact q
  · exact absurd h (by rw [pm_t145_out hn]; exact fun q => by cases q)
set_option maxRecDepth 100000 in
theorem pm_k146_0 : pm_chkM pm_t146 (yX12_fault, cX12_fault, 5, (some .int), 12, 113) 0 113 = true := by decide +kernel
theorem pm_k146 {n : Nat} {e : pm_E} (h : pm_t146 n = some e) : pm_chk yX12_fault cX12_fault (some .int) 12 n e = true := by
  rcases Nat.lt_or_ge n 113 with hn | hn
  · have q := pm_chkM_get pm_k146_0 h (Nat.zero_le _) (by rw [Nat.zero_add]; exact hn)
    exact q
  · exact absurd h (by rw [pm_t146_out hn]; exact fun q => by cases q)
set_option maxRecDepth 100000 in
theorem pm_k147_0 : pm_chkM pm_t147 (yX12_faultMany, cX12_faultMany, 3, (some .int), 12, 34) 0 34 = true := by decide +kernel
theorem pm_k147 {n : Nat} {e : pm_E} (h : pm_t147 n = some e) : pm_chk yX12_faultMany cX12_faultMany (some .int) 12 n e = true := by
  rcases Nat.lt_or_ge n 34 with hn | hn
  · have q := pm_chkM_get pm_k147_0 h (Nat.zero_le _) (by rw [Nat.zero_add]; exact hn)
    exact q
  · exact absurd h (by rw [pm_t147_out hn]; exact fun q => by cases q)
set_option maxRecDepth 100000 in
theorem pm_k148_0 : pm_chkM pm_t148 (yX12_clear, cX12_clear, 3, (some .int), 12, 27) 0 27 = true := by decide +kernel
theorem pm_k148 {n : Nat} {e : pm_E} (h : pm_t148 n = some e) : pm_chk yX12_clear cX12_clear (some .int) 12 n e = true := by
  rcases Nat.lt_or_ge n 27 with hn | hn
  · have q := pm_chkM_get pm_k148_0 h (Nat.zero_le _) (by rw [Nat.zero_add]; exact hn)
    exact q
  · exact absurd h (by rw [pm_t148_out hn]; exact fun q => by cases q)
set_option maxRecDepth 100000 in
theorem pm_k149_0 : pm_chkM pm_t149 (yX12_showPlain, cX12_showPlain, 2, none, 12, 28) 0 28 = true := by decide +kernel
theorem pm_k149 {n : Nat} {e : pm_E} (h : pm_t149 n = some e) : pm_chk yX12_showPlain cX12_showPlain none 12 n e = true := by
  rcases Nat.lt_or_ge n 28 with hn | hn
  · have q := pm_chkM_get pm_k149_0 h (Nat.zero_le _) (by rw [Nat.zero_add]; exact hn)
    exact q
  · exact absurd h (by rw [pm_t149_out hn]; exact fun q => by cases q)
set_option maxRecDepth 100000 in
theorem pm_k150_0 : pm_chkM pm_t150 (yX12_cross, cX12_cross, 5, none, 12, 109) 0 109 = true := by decide +kernel
theorem pm_k150 {n : Nat} {e : pm_E} (h : pm_t150 n = some e) : pm_chk yX12_cross cX12_cross none 12 n e = true := by
  rcases Nat.lt_or_ge n 109 with hn | hn
  · have q := pm_chkM_get pm_k150_0 h (Nat.zero_le _) (by rw [Nat.zero_add]; exact hn)
    exact q
  · exact absurd h (by rw [pm_t150_out hn]; exact fun q => by cases q)
set_option maxRecDepth 100000 in
theorem pm_k151_0 : pm_chkM pm_t151 (yX12_breakCord, cX12_breakCord, 4, none, 12, 69) 0 69 = true := by decide +kernel
theorem pm_k151 {n : Nat} {e : pm_E} (h : pm_t151 n = some e) : pm_chk yX12_breakCord cX12_breakCord none 12 n e = true := by
  rcases Nat.lt_or_ge n 69 with hn | hn
  · have q := pm_chkM_get pm_k151_0 h (Nat.zero_le _) (by rw [Nat.zero_add]; exact hn)
    exact q
  · exact absurd h (by rw [pm_t151_out hn]; exact fun q => by cases q)
set_option maxRecDepth 100000 in
theorem pm_k152_0 : pm_chkM pm_t152 (yX12_skip, cX12_skip, 4, none, 12, 71) 0 71 = true := by decide +kernel
theorem pm_k152 {n : Nat} {e : pm_E} (h : pm_t152 n = some e) : pm_chk yX12_skip cX12_skip none 12 n e = true := by
  rcases Nat.lt_or_ge n 71 with hn | hn
  · have q := pm_chkM_get pm_k152_0 h (Nat.zero_le _) (by rw [Nat.zero_add]; exact hn)
    exact q
  · exact absurd h (by rw [pm_t152_out hn]; exact fun q => by cases q)
set_option maxRecDepth 100000 in
theorem pm_k153_0 : pm_chkM pm_t153 (yX12_weave, cX12_weave, 4, (some .int), 12, 230) 0 230 = true := by decide +kernel
theorem pm_k153 {n : Nat} {e : pm_E} (h : pm_t153 n = some e) : pm_chk yX12_weave cX12_weave (some .int) 12 n e = true := by
  rcases Nat.lt_or_ge n 230 with hn | hn
  · have q := pm_chkM_get pm_k153_0 h (Nat.zero_le _) (by rw [Nat.zero_add]; exact hn)
    exact q
  · exact absurd h (by rw [pm_t153_out hn]; exact fun q => by cases q)
set_option maxRecDepth 100000 in
theorem pm_k154_0 : pm_chkM pm_t154 (yX12_isCloth, cX12_isCloth, 3, (some .boolean), 12, 34) 0 34 = true := by decide +kernel
theorem pm_k154 {n : Nat} {e : pm_E} (h : pm_t154 n = some e) : pm_chk yX12_isCloth cX12_isCloth (some .boolean) 12 n e = true := by
  rcases Nat.lt_or_ge n 34 with hn | hn
  · have q := pm_chkM_get pm_k154_0 h (Nat.zero_le _) (by rw [Nat.zero_add]; exact hn)
    exact q
  · exact absurd h (by rw [pm_t154_out hn]; exact fun q => by cases q)
set_option maxRecDepth 100000 in
theorem pm_k155_0 : pm_chkM pm_t155 (yX12_cloth, cX12_cloth, 3, (some .int), 12, 43) 0 43 = true := by decide +kernel
theorem pm_k155 {n : Nat} {e : pm_E} (h : pm_t155 n = some e) : pm_chk yX12_cloth cX12_cloth (some .int) 12 n e = true := by
  rcases Nat.lt_or_ge n 43 with hn | hn
  · have q := pm_chkM_get pm_k155_0 h (Nat.zero_le _) (by rw [Nat.zero_add]; exact hn)
    exact q
  · exact absurd h (by rw [pm_t155_out hn]; exact fun q => by cases q)
set_option maxRecDepth 100000 in
theorem pm_k156_0 : pm_chkM pm_t156 (yX12_see, cX12_see, 5, (some .int), 12, 66) 0 66 = true := by decide +kernel
theorem pm_k156 {n : Nat} {e : pm_E} (h : pm_t156 n = some e) : pm_chk yX12_see cX12_see (some .int) 12 n e = true := by
  rcases Nat.lt_or_ge n 66 with hn | hn
  · have q := pm_chkM_get pm_k156_0 h (Nat.zero_le _) (by rw [Nat.zero_add]; exact hn)
    exact q
  · exact absurd h (by rw [pm_t156_out hn]; exact fun q => by cases q)
set_option maxRecDepth 100000 in
theorem pm_k157_0 : pm_chkM pm_t157 (yX12_isShown, cX12_isShown, 4, (some .boolean), 12, 71) 0 71 = true := by decide +kernel
theorem pm_k157 {n : Nat} {e : pm_E} (h : pm_t157 n = some e) : pm_chk yX12_isShown cX12_isShown (some .boolean) 12 n e = true := by
  rcases Nat.lt_or_ge n 71 with hn | hn
  · have q := pm_chkM_get pm_k157_0 h (Nat.zero_le _) (by rw [Nat.zero_add]; exact hn)
    exact q
  · exact absurd h (by rw [pm_t157_out hn]; exact fun q => by cases q)
set_option maxRecDepth 100000 in
theorem pm_k158_0 : pm_chkM pm_t158 (yX12_findKind, cX12_findKind, 3, (some .int), 12, 173) 0 173 = true := by decide +kernel
theorem pm_k158 {n : Nat} {e : pm_E} (h : pm_t158 n = some e) : pm_chk yX12_findKind cX12_findKind (some .int) 12 n e = true := by
  rcases Nat.lt_or_ge n 173 with hn | hn
  · have q := pm_chkM_get pm_k158_0 h (Nat.zero_le _) (by rw [Nat.zero_add]; exact hn)
    exact q
  · exact absurd h (by rw [pm_t158_out hn]; exact fun q => by cases q)
set_option maxRecDepth 100000 in
theorem pm_k159_0 : pm_chkM pm_t159 (yX12_explained, cX12_explained, 3, (some .int), 12, 82) 0 82 = true := by decide +kernel
theorem pm_k159 {n : Nat} {e : pm_E} (h : pm_t159 n = some e) : pm_chk yX12_explained cX12_explained (some .int) 12 n e = true := by
  rcases Nat.lt_or_ge n 82 with hn | hn
  · have q := pm_chkM_get pm_k159_0 h (Nat.zero_le _) (by rw [Nat.zero_add]; exact hn)
    exact q
  · exact absurd h (by rw [pm_t159_out hn]; exact fun q => by cases q)
