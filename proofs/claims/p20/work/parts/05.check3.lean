set_option maxRecDepth 100000 in
theorem pm_k133_0 : pm_lw (pm_F pm_t133 yX12_pullOfPick cX12_pullOfPick (some .int) 12) (List.range' 0 49) cX12_pullOfPick.data.toList = true := by decide +kernel
theorem pm_k133 {n : Nat} {e : pm_E} (h : pm_t133 n = some e) : pm_chk yX12_pullOfPick cX12_pullOfPick (some .int) 12 n e = true := by
  rcases Nat.lt_or_ge n 49 with hn | hn
  · exact pm_kl pm_k133_0 hn h
  · exact absurd h (by rw [pm_t133_out hn]; exact fun q => by cases q)
set_option maxRecDepth 100000 in
theorem pm_k134_0 : pm_lw (pm_F pm_t134 yX12_pull cX12_pull (some .int) 12) (List.range' 0 40) cX12_pull.data.toList = true := by decide +kernel
theorem pm_k134 {n : Nat} {e : pm_E} (h : pm_t134 n = some e) : pm_chk yX12_pull cX12_pull (some .int) 12 n e = true := by
  rcases Nat.lt_or_ge n 40 with hn | hn
  · exact pm_kl pm_k134_0 hn h
  · exact absurd h (by rw [pm_t134_out hn]; exact fun q => by cases q)
set_option maxRecDepth 100000 in
theorem pm_k135_0 : pm_lw (pm_F pm_t135 yX12_pullAt cX12_pullAt (some .int) 12) (List.range' 0 66) cX12_pullAt.data.toList = true := by decide +kernel
theorem pm_k135 {n : Nat} {e : pm_E} (h : pm_t135 n = some e) : pm_chk yX12_pullAt cX12_pullAt (some .int) 12 n e = true := by
  rcases Nat.lt_or_ge n 66 with hn | hn
  · exact pm_kl pm_k135_0 hn h
  · exact absurd h (by rw [pm_t135_out hn]; exact fun q => by cases q)
set_option maxRecDepth 100000 in
theorem pm_k136_0 : pm_lw (pm_F pm_t136 yX12_pulls cX12_pulls (some .int) 12) (List.range' 0 8) cX12_pulls.data.toList = true := by decide +kernel
theorem pm_k136 {n : Nat} {e : pm_E} (h : pm_t136 n = some e) : pm_chk yX12_pulls cX12_pulls (some .int) 12 n e = true := by
  rcases Nat.lt_or_ge n 8 with hn | hn
  · exact pm_kl pm_k136_0 hn h
  · exact absurd h (by rw [pm_t136_out hn]; exact fun q => by cases q)
set_option maxRecDepth 100000 in
theorem pm_k137_0 : pm_lw (pm_F pm_t137 yX12_pullOf cX12_pullOf (some .int) 12) (List.range' 0 54) cX12_pullOf.data.toList = true := by decide +kernel
theorem pm_k137 {n : Nat} {e : pm_E} (h : pm_t137 n = some e) : pm_chk yX12_pullOf cX12_pullOf (some .int) 12 n e = true := by
  rcases Nat.lt_or_ge n 54 with hn | hn
  · exact pm_kl pm_k137_0 hn h
  · exact absurd h (by rw [pm_t137_out hn]; exact fun q => by cases q)
set_option maxRecDepth 100000 in
theorem pm_k138_0 : pm_lw (pm_F pm_t138 yX12_limit cX12_limit (some .int) 12) (List.range' 0 37) cX12_limit.data.toList = true := by decide +kernel
theorem pm_k138 {n : Nat} {e : pm_E} (h : pm_t138 n = some e) : pm_chk yX12_limit cX12_limit (some .int) 12 n e = true := by
  rcases Nat.lt_or_ge n 37 with hn | hn
  · exact pm_kl pm_k138_0 hn h
  · exact absurd h (by rw [pm_t138_out hn]; exact fun q => by cases q)
set_option maxRecDepth 100000 in
theorem pm_k139_0 : pm_lw (pm_F pm_t139 yX12_begins cX12_begins (some .boolean) 12) (List.range' 0 33) cX12_begins.data.toList = true := by decide +kernel
theorem pm_k139 {n : Nat} {e : pm_E} (h : pm_t139 n = some e) : pm_chk yX12_begins cX12_begins (some .boolean) 12 n e = true := by
  rcases Nat.lt_or_ge n 33 with hn | hn
  · exact pm_kl pm_k139_0 hn h
  · exact absurd h (by rw [pm_t139_out hn]; exact fun q => by cases q)
set_option maxRecDepth 100000 in
theorem pm_k140_0 : pm_lw (pm_F pm_t140 yX12_runFrom cX12_runFrom (some .int) 12) (List.range' 0 40) cX12_runFrom.data.toList = true := by decide +kernel
theorem pm_k140 {n : Nat} {e : pm_E} (h : pm_t140 n = some e) : pm_chk yX12_runFrom cX12_runFrom (some .int) 12 n e = true := by
  rcases Nat.lt_or_ge n 40 with hn | hn
  · exact pm_kl pm_k140_0 hn h
  · exact absurd h (by rw [pm_t140_out hn]; exact fun q => by cases q)
set_option maxRecDepth 100000 in
theorem pm_k141_0 : pm_lw (pm_F pm_t141 yX12_isPlain cX12_isPlain (some .boolean) 12) (List.range' 0 45) cX12_isPlain.data.toList = true := by decide +kernel
theorem pm_k141 {n : Nat} {e : pm_E} (h : pm_t141 n = some e) : pm_chk yX12_isPlain cX12_isPlain (some .boolean) 12 n e = true := by
  rcases Nat.lt_or_ge n 45 with hn | hn
  · exact pm_kl pm_k141_0 hn h
  · exact absurd h (by rw [pm_t141_out hn]; exact fun q => by cases q)
set_option maxRecDepth 100000 in
theorem pm_k142_0 : pm_lw (pm_F pm_t142 yX12_floats cX12_floats (some .int) 12) (List.range' 0 142) cX12_floats.data.toList = true := by decide +kernel
theorem pm_k142 {n : Nat} {e : pm_E} (h : pm_t142 n = some e) : pm_chk yX12_floats cX12_floats (some .int) 12 n e = true := by
  rcases Nat.lt_or_ge n 142 with hn | hn
  · exact pm_kl pm_k142_0 hn h
  · exact absurd h (by rw [pm_t142_out hn]; exact fun q => by cases q)
set_option maxRecDepth 100000 in
theorem pm_k143_0 : pm_lw (pm_F pm_t143 yX12_fewestFrom cX12_fewestFrom (some .int) 12) (List.range' 0 328) cX12_fewestFrom.data.toList = true := by decide +kernel
theorem pm_k143 {n : Nat} {e : pm_E} (h : pm_t143 n = some e) : pm_chk yX12_fewestFrom cX12_fewestFrom (some .int) 12 n e = true := by
  rcases Nat.lt_or_ge n 328 with hn | hn
  · exact pm_kl pm_k143_0 hn h
  · exact absurd h (by rw [pm_t143_out hn]; exact fun q => by cases q)
set_option maxRecDepth 100000 in
theorem pm_k144_0 : pm_lw (pm_F pm_t144 yX12_fewest cX12_fewest (some .int) 12) (List.range' 0 138) cX12_fewest.data.toList = true := by decide +kernel
theorem pm_k144 {n : Nat} {e : pm_E} (h : pm_t144 n = some e) : pm_chk yX12_fewest cX12_fewest (some .int) 12 n e = true := by
  rcases Nat.lt_or_ge n 138 with hn | hn
  · exact pm_kl pm_k144_0 hn h
  · exact absurd h (by rw [pm_t144_out hn]; exact fun q => by cases q)
set_option maxRecDepth 100000 in
theorem pm_k145_0 : pm_lw (pm_F pm_t145 yX12_mend cX12_mend (some .int) 12) (List.range' 0 90) cX12_mend.data.toList = true := by decide +kernel
theorem pm_k145 {n : Nat} {e : pm_E} (h : pm_t145 n = some e) : pm_chk yX12_mend cX12_mend (some .int) 12 n e = true := by
  rcases Nat.lt_or_ge n 90 with hn | hn
  · exact pm_kl pm_k145_0 hn h
  · exact absurd h (by rw [pm_t145_out hn]; exact fun q => by cases q)
set_option maxRecDepth 100000 in
theorem pm_k146_0 : pm_lw (pm_F pm_t146 yX12_fault cX12_fault (some .int) 12) (List.range' 0 113) cX12_fault.data.toList = true := by decide +kernel
theorem pm_k146 {n : Nat} {e : pm_E} (h : pm_t146 n = some e) : pm_chk yX12_fault cX12_fault (some .int) 12 n e = true := by
  rcases Nat.lt_or_ge n 113 with hn | hn
  · exact pm_kl pm_k146_0 hn h
  · exact absurd h (by rw [pm_t146_out hn]; exact fun q => by cases q)
set_option maxRecDepth 100000 in
theorem pm_k147_0 : pm_lw (pm_F pm_t147 yX12_faultMany cX12_faultMany (some .int) 12) (List.range' 0 34) cX12_faultMany.data.toList = true := by decide +kernel
theorem pm_k147 {n : Nat} {e : pm_E} (h : pm_t147 n = some e) : pm_chk yX12_faultMany cX12_faultMany (some .int) 12 n e = true := by
  rcases Nat.lt_or_ge n 34 with hn | hn
  · exact pm_kl pm_k147_0 hn h
  · exact absurd h (by rw [pm_t147_out hn]; exact fun q => by cases q)
set_option maxRecDepth 100000 in
theorem pm_k148_0 : pm_lw (pm_F pm_t148 yX12_clear cX12_clear (some .int) 12) (List.range' 0 27) cX12_clear.data.toList = true := by decide +kernel
theorem pm_k148 {n : Nat} {e : pm_E} (h : pm_t148 n = some e) : pm_chk yX12_clear cX12_clear (some .int) 12 n e = true := by
  rcases Nat.lt_or_ge n 27 with hn | hn
  · exact pm_kl pm_k148_0 hn h
  · exact absurd h (by rw [pm_t148_out hn]; exact fun q => by cases q)
set_option maxRecDepth 100000 in
theorem pm_k149_0 : pm_lw (pm_F pm_t149 yX12_showPlain cX12_showPlain none 12) (List.range' 0 28) cX12_showPlain.data.toList = true := by decide +kernel
theorem pm_k149 {n : Nat} {e : pm_E} (h : pm_t149 n = some e) : pm_chk yX12_showPlain cX12_showPlain none 12 n e = true := by
  rcases Nat.lt_or_ge n 28 with hn | hn
  · exact pm_kl pm_k149_0 hn h
  · exact absurd h (by rw [pm_t149_out hn]; exact fun q => by cases q)
set_option maxRecDepth 100000 in
theorem pm_k150_0 : pm_lw (pm_F pm_t150 yX12_cross cX12_cross none 12) (List.range' 0 109) cX12_cross.data.toList = true := by decide +kernel
theorem pm_k150 {n : Nat} {e : pm_E} (h : pm_t150 n = some e) : pm_chk yX12_cross cX12_cross none 12 n e = true := by
  rcases Nat.lt_or_ge n 109 with hn | hn
  · exact pm_kl pm_k150_0 hn h
  · exact absurd h (by rw [pm_t150_out hn]; exact fun q => by cases q)
set_option maxRecDepth 100000 in
theorem pm_k151_0 : pm_lw (pm_F pm_t151 yX12_breakCord cX12_breakCord none 12) (List.range' 0 69) cX12_breakCord.data.toList = true := by decide +kernel
theorem pm_k151 {n : Nat} {e : pm_E} (h : pm_t151 n = some e) : pm_chk yX12_breakCord cX12_breakCord none 12 n e = true := by
  rcases Nat.lt_or_ge n 69 with hn | hn
  · exact pm_kl pm_k151_0 hn h
  · exact absurd h (by rw [pm_t151_out hn]; exact fun q => by cases q)
set_option maxRecDepth 100000 in
theorem pm_k152_0 : pm_lw (pm_F pm_t152 yX12_skip cX12_skip none 12) (List.range' 0 71) cX12_skip.data.toList = true := by decide +kernel
theorem pm_k152 {n : Nat} {e : pm_E} (h : pm_t152 n = some e) : pm_chk yX12_skip cX12_skip none 12 n e = true := by
  rcases Nat.lt_or_ge n 71 with hn | hn
  · exact pm_kl pm_k152_0 hn h
  · exact absurd h (by rw [pm_t152_out hn]; exact fun q => by cases q)
set_option maxRecDepth 100000 in
theorem pm_k153_0 : pm_lw (pm_F pm_t153 yX12_weave cX12_weave (some .int) 12) (List.range' 0 230) cX12_weave.data.toList = true := by decide +kernel
theorem pm_k153 {n : Nat} {e : pm_E} (h : pm_t153 n = some e) : pm_chk yX12_weave cX12_weave (some .int) 12 n e = true := by
  rcases Nat.lt_or_ge n 230 with hn | hn
  · exact pm_kl pm_k153_0 hn h
  · exact absurd h (by rw [pm_t153_out hn]; exact fun q => by cases q)
set_option maxRecDepth 100000 in
theorem pm_k154_0 : pm_lw (pm_F pm_t154 yX12_isCloth cX12_isCloth (some .boolean) 12) (List.range' 0 34) cX12_isCloth.data.toList = true := by decide +kernel
theorem pm_k154 {n : Nat} {e : pm_E} (h : pm_t154 n = some e) : pm_chk yX12_isCloth cX12_isCloth (some .boolean) 12 n e = true := by
  rcases Nat.lt_or_ge n 34 with hn | hn
  · exact pm_kl pm_k154_0 hn h
  · exact absurd h (by rw [pm_t154_out hn]; exact fun q => by cases q)
set_option maxRecDepth 100000 in
theorem pm_k155_0 : pm_lw (pm_F pm_t155 yX12_cloth cX12_cloth (some .int) 12) (List.range' 0 43) cX12_cloth.data.toList = true := by decide +kernel
theorem pm_k155 {n : Nat} {e : pm_E} (h : pm_t155 n = some e) : pm_chk yX12_cloth cX12_cloth (some .int) 12 n e = true := by
  rcases Nat.lt_or_ge n 43 with hn | hn
  · exact pm_kl pm_k155_0 hn h
  · exact absurd h (by rw [pm_t155_out hn]; exact fun q => by cases q)
set_option maxRecDepth 100000 in
theorem pm_k156_0 : pm_lw (pm_F pm_t156 yX12_see cX12_see (some .int) 12) (List.range' 0 66) cX12_see.data.toList = true := by decide +kernel
theorem pm_k156 {n : Nat} {e : pm_E} (h : pm_t156 n = some e) : pm_chk yX12_see cX12_see (some .int) 12 n e = true := by
  rcases Nat.lt_or_ge n 66 with hn | hn
  · exact pm_kl pm_k156_0 hn h
  · exact absurd h (by rw [pm_t156_out hn]; exact fun q => by cases q)
set_option maxRecDepth 100000 in
theorem pm_k157_0 : pm_lw (pm_F pm_t157 yX12_isShown cX12_isShown (some .boolean) 12) (List.range' 0 71) cX12_isShown.data.toList = true := by decide +kernel
theorem pm_k157 {n : Nat} {e : pm_E} (h : pm_t157 n = some e) : pm_chk yX12_isShown cX12_isShown (some .boolean) 12 n e = true := by
  rcases Nat.lt_or_ge n 71 with hn | hn
  · exact pm_kl pm_k157_0 hn h
  · exact absurd h (by rw [pm_t157_out hn]; exact fun q => by cases q)
set_option maxRecDepth 100000 in
theorem pm_k158_0 : pm_lw (pm_F pm_t158 yX12_findKind cX12_findKind (some .int) 12) (List.range' 0 173) cX12_findKind.data.toList = true := by decide +kernel
theorem pm_k158 {n : Nat} {e : pm_E} (h : pm_t158 n = some e) : pm_chk yX12_findKind cX12_findKind (some .int) 12 n e = true := by
  rcases Nat.lt_or_ge n 173 with hn | hn
  · exact pm_kl pm_k158_0 hn h
  · exact absurd h (by rw [pm_t158_out hn]; exact fun q => by cases q)
set_option maxRecDepth 100000 in
theorem pm_k159_0 : pm_lw (pm_F pm_t159 yX12_explained cX12_explained (some .int) 12) (List.range' 0 82) cX12_explained.data.toList = true := by decide +kernel
theorem pm_k159 {n : Nat} {e : pm_E} (h : pm_t159 n = some e) : pm_chk yX12_explained cX12_explained (some .int) 12 n e = true := by
  rcases Nat.lt_or_ge n 82 with hn | hn
  · exact pm_kl pm_k159_0 hn h
  · exact absurd h (by rw [pm_t159_out hn]; exact fun q => by cases q)

