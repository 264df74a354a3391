set_option maxRecDepth 100000 in
theorem pm_k160_0 : pm_chkM pm_t160 (yX12_set, cX12_set, 4, (some .int), 12, 100) 0 100 = true := by decide +kernel
theorem pm_k160 {n : Nat} {e : pm_E} (h : pm_t160 n = some e) : pm_chk yX12_set cX12_set (some .int) 12 n e = true := by
  rcases Nat.lt_or_ge n 100 with hn | hn
  · have q := pm_chkM_get pm_k160_0 h (Nat.zero_le _) (by rw [Nat.zero_add]; exact hn)
    exact q
  · exact absurd h (by rw [pm_t160_out hn]; exact fun q => by cases q)
set_option maxRecDepth 100000 in
theorem pm_k161_0 : pm_chkM pm_t161 (yX12_order, cX12_order, 4, (some .int), 12, 112) 0 112 = true := by decide +kernel
theorem pm_k161 {n : Nat} {e : pm_E} (h : pm_t161 n = some e) : pm_chk yX12_order cX12_order (some .int) 12 n e = true := by
  rcases Nat.lt_or_ge n 112 with hn | hn
  · have q := pm_chkM_get pm_k161_0 h (Nat.zero_le _) (by rw [Nat.zero_add]; exact hn)
    exact q
  · exact absurd h (by rw [pm_t161_out hn]; exact fun q => by cases q)
set_option maxRecDepth 100000 in
theorem pm_k162_0 : pm_chkM pm_t162 (yX12_daysOf, cX12_daysOf, 3, (some .int), 12, 38) 0 38 = true := by decide +kernel
theorem pm_k162 {n : Nat} {e : pm_E} (h : pm_t162 n = some e) : pm_chk yX12_daysOf cX12_daysOf (some .int) 12 n e = true := by
  rcases Nat.lt_or_ge n 38 with hn | hn
  · have q := pm_chkM_get pm_k162_0 h (Nat.zero_le _) (by rw [Nat.zero_add]; exact hn)
    exact q
  · exact absurd h (by rw [pm_t162_out hn]; exact fun q => by cases q)
set_option maxRecDepth 100000 in
theorem pm_k163_0 : pm_chkM pm_t163 (yX12_ask, cX12_ask, 2, (some .boolean), 12, 74) 0 74 = true := by decide +kernel
theorem pm_k163 {n : Nat} {e : pm_E} (h : pm_t163 n = some e) : pm_chk yX12_ask cX12_ask (some .boolean) 12 n e = true := by
  rcases Nat.lt_or_ge n 74 with hn | hn
  · have q := pm_chkM_get pm_k163_0 h (Nat.zero_le _) (by rw [Nat.zero_add]; exact hn)
    exact q
  · exact absurd h (by rw [pm_t163_out hn]; exact fun q => by cases q)
set_option maxRecDepth 100000 in
theorem pm_k164_0 : pm_chkM pm_t164 (yX12_findRow, cX12_findRow, 8, none, 12, 134) 0 134 = true := by decide +kernel
theorem pm_k164 {n : Nat} {e : pm_E} (h : pm_t164 n = some e) : pm_chk yX12_findRow cX12_findRow none 12 n e = true := by
  rcases Nat.lt_or_ge n 134 with hn | hn
  · have q := pm_chkM_get pm_k164_0 h (Nat.zero_le _) (by rw [Nat.zero_add]; exact hn)
    exact q
  · exact absurd h (by rw [pm_t164_out hn]; exact fun q => by cases q)
set_option maxRecDepth 100000 in
theorem pm_k165_0 : pm_chkM pm_t165 (yX12_findBest, cX12_findBest, 8, (some .int), 12, 195) 0 195 = true := by decide +kernel
theorem pm_k165 {n : Nat} {e : pm_E} (h : pm_t165 n = some e) : pm_chk yX12_findBest cX12_findBest (some .int) 12 n e = true := by
  rcases Nat.lt_or_ge n 195 with hn | hn
  · have q := pm_chkM_get pm_k165_0 h (Nat.zero_le _) (by rw [Nat.zero_add]; exact hn)
    exact q
  · exact absurd h (by rw [pm_t165_out hn]; exact fun q => by cases q)
set_option maxRecDepth 100000 in
theorem pm_k166_0 : pm_chkM pm_t166 (yX12_best, cX12_best, 1, (some .int), 12, 21) 0 21 = true := by decide +kernel
theorem pm_k166 {n : Nat} {e : pm_E} (h : pm_t166 n = some e) : pm_chk yX12_best cX12_best (some .int) 12 n e = true := by
  rcases Nat.lt_or_ge n 21 with hn | hn
  · have q := pm_chkM_get pm_k166_0 h (Nat.zero_le _) (by rw [Nat.zero_add]; exact hn)
    exact q
  · exact absurd h (by rw [pm_t166_out hn]; exact fun q => by cases q)
set_option maxRecDepth 100000 in
theorem pm_k167_0 : pm_chkM pm_t167 (yX12_bestAt, cX12_bestAt, 3, (some .int), 12, 43) 0 43 = true := by decide +kernel
theorem pm_k167 {n : Nat} {e : pm_E} (h : pm_t167 n = some e) : pm_chk yX12_bestAt cX12_bestAt (some .int) 12 n e = true := by
  rcases Nat.lt_or_ge n 43 with hn | hn
  · have q := pm_chkM_get pm_k167_0 h (Nat.zero_le _) (by rw [Nat.zero_add]; exact hn)
    exact q
  · exact absurd h (by rw [pm_t167_out hn]; exact fun q => by cases q)
set_option maxRecDepth 100000 in
theorem pm_k168_0 : pm_chkM pm_t168 (yX12_lawAt, cX12_lawAt, 4, (some .int), 12, 55) 0 55 = true := by decide +kernel
theorem pm_k168 {n : Nat} {e : pm_E} (h : pm_t168 n = some e) : pm_chk yX12_lawAt cX12_lawAt (some .int) 12 n e = true := by
  rcases Nat.lt_or_ge n 55 with hn | hn
  · have q := pm_chkM_get pm_k168_0 h (Nat.zero_le _) (by rw [Nat.zero_add]; exact hn)
    exact q
  · exact absurd h (by rw [pm_t168_out hn]; exact fun q => by cases q)
set_option maxRecDepth 100000 in
theorem pm_k169_0 : pm_chkM pm_t169 (yX12_work, cX12_work, 4, (some .int), 12, 163) 0 163 = true := by decide +kernel
theorem pm_k169 {n : Nat} {e : pm_E} (h : pm_t169 n = some e) : pm_chk yX12_work cX12_work (some .int) 12 n e = true := by
  rcases Nat.lt_or_ge n 163 with hn | hn
  · have q := pm_chkM_get pm_k169_0 h (Nat.zero_le _) (by rw [Nat.zero_add]; exact hn)
    exact q
  · exact absurd h (by rw [pm_t169_out hn]; exact fun q => by cases q)
set_option maxRecDepth 100000 in
theorem pm_k170_0 : pm_chkM pm_t170 (yX12_days, cX12_days, 2, (some .int), 12, 46) 0 46 = true := by decide +kernel
theorem pm_k170 {n : Nat} {e : pm_E} (h : pm_t170 n = some e) : pm_chk yX12_days cX12_days (some .int) 12 n e = true := by
  rcases Nat.lt_or_ge n 46 with hn | hn
  · have q := pm_chkM_get pm_k170_0 h (Nat.zero_le _) (by rw [Nat.zero_add]; exact hn)
    exact q
  · exact absurd h (by rw [pm_t170_out hn]; exact fun q => by cases q)
set_option maxRecDepth 100000 in
theorem pm_k171_0 : pm_chkM pm_t171 (yX12_law, cX12_law, 4, (some .int), 12, 107) 0 107 = true := by decide +kernel
theorem pm_k171 {n : Nat} {e : pm_E} (h : pm_t171 n = some e) : pm_chk yX12_law cX12_law (some .int) 12 n e = true := by
  rcases Nat.lt_or_ge n 107 with hn | hn
  · have q := pm_chkM_get pm_k171_0 h (Nat.zero_le _) (by rw [Nat.zero_add]; exact hn)
    exact q
  · exact absurd h (by rw [pm_t171_out hn]; exact fun q => by cases q)
set_option maxRecDepth 100000 in
theorem pm_k172_0 : pm_chkM pm_t172 (yX12_silk, cX12_silk, 7, (some .int), 12, 138) 0 138 = true := by decide +kernel
theorem pm_k172 {n : Nat} {e : pm_E} (h : pm_t172 n = some e) : pm_chk yX12_silk cX12_silk (some .int) 12 n e = true := by
  rcases Nat.lt_or_ge n 138 with hn | hn
  · have q := pm_chkM_get pm_k172_0 h (Nat.zero_le _) (by rw [Nat.zero_add]; exact hn)
    exact q
  · exact absurd h (by rw [pm_t172_out hn]; exact fun q => by cases q)
set_option maxRecDepth 100000 in
theorem pm_k173_0 : pm_chkM pm_t173 (yX12_account, cX12_account, 3, (some .int), 12, 107) 0 107 = true := by decide +kernel
theorem pm_k173 {n : Nat} {e : pm_E} (h : pm_t173 n = some e) : pm_chk yX12_account cX12_account (some .int) 12 n e = true := by
  rcases Nat.lt_or_ge n 107 with hn | hn
  · have q := pm_chkM_get pm_k173_0 h (Nat.zero_le _) (by rw [Nat.zero_add]; exact hn)
    exact q
  · exact absurd h (by rw [pm_t173_out hn]; exact fun q => by cases q)
set_option maxRecDepth 100000 in
theorem pm_k174_0 : pm_chkM pm_t174 (yX12_isBeam, cX12_isBeam, 1, (some .boolean), 12, 7) 0 7 = true := by decide +kernel
theorem pm_k174 {n : Nat} {e : pm_E} (h : pm_t174 n = some e) : pm_chk yX12_isBeam cX12_isBeam (some .boolean) 12 n e = true := by
  rcases Nat.lt_or_ge n 7 with hn | hn
  · have q := pm_chkM_get pm_k174_0 h (Nat.zero_le _) (by rw [Nat.zero_add]; exact hn)
    exact q
  · exact absurd h (by rw [pm_t174_out hn]; exact fun q => by cases q)
set_option maxRecDepth 100000 in
theorem pm_k175_0 : pm_chkM pm_t175 (yX12_warp, cX12_warp, 3, (some .int), 12, 71) 0 71 = true := by decide +kernel
theorem pm_k175 {n : Nat} {e : pm_E} (h : pm_t175 n = some e) : pm_chk yX12_warp cX12_warp (some .int) 12 n e = true := by
  rcases Nat.lt_or_ge n 71 with hn | hn
  · have q := pm_chkM_get pm_k175_0 h (Nat.zero_le _) (by rw [Nat.zero_add]; exact hn)
    exact q
  · exact absurd h (by rw [pm_t175_out hn]; exact fun q => by cases q)
set_option maxRecDepth 100000 in
theorem pm_k176_0 : pm_chkM pm_t176 (yX12_cards, cX12_cards, 3, (some .int), 12, 91) 0 91 = true := by decide +kernel
theorem pm_k176 {n : Nat} {e : pm_E} (h : pm_t176 n = some e) : pm_chk yX12_cards cX12_cards (some .int) 12 n e = true := by
  rcases Nat.lt_or_ge n 91 with hn | hn
  · have q := pm_chkM_get pm_k176_0 h (Nat.zero_le _) (by rw [Nat.zero_add]; exact hn)
    exact q
  · exact absurd h (by rw [pm_t176_out hn]; exact fun q => by cases q)
set_option maxRecDepth 100000 in
theorem pm_k177_0 : pm_chkM pm_t177 (yX12_lacks, cX12_lacks, 3, (some .int), 12, 42) 0 42 = true := by decide +kernel
theorem pm_k177 {n : Nat} {e : pm_E} (h : pm_t177 n = some e) : pm_chk yX12_lacks cX12_lacks (some .int) 12 n e = true := by
  rcases Nat.lt_or_ge n 42 with hn | hn
  · have q := pm_chkM_get pm_k177_0 h (Nat.zero_le _) (by rw [Nat.zero_add]; exact hn)
    exact q
  · exact absurd h (by rw [pm_t177_out hn]; exact fun q => by cases q)
set_option maxRecDepth 100000 in
theorem pm_k178_0 : pm_chkM pm_t178 (yX12_hang, cX12_hang, 4, (some .int), 12, 80) 0 80 = true := by decide +kernel
theorem pm_k178 {n : Nat} {e : pm_E} (h : pm_t178 n = some e) : pm_chk yX12_hang cX12_hang (some .int) 12 n e = true := by
  rcases Nat.lt_or_ge n 80 with hn | hn
  · have q := pm_chkM_get pm_k178_0 h (Nat.zero_le _) (by rw [Nat.zero_add]; exact hn)
    exact q
  · exact absurd h (by rw [pm_t178_out hn]; exact fun q => by cases q)
set_option maxRecDepth 100000 in
theorem pm_k179_0 : pm_chkM pm_t179 (yX12_cut, cX12_cut, 4, (some .int), 12, 83) 0 83 = true := by decide +kernel
theorem pm_k179 {n : Nat} {e : pm_E} (h : pm_t179 n = some e) : pm_chk yX12_cut cX12_cut (some .int) 12 n e = true := by
  rcases Nat.lt_or_ge n 83 with hn | hn
  · have q := pm_chkM_get pm_k179_0 h (Nat.zero_le _) (by rw [Nat.zero_add]; exact hn)
    exact q
  · exact absurd h (by rw [pm_t179_out hn]; exact fun q => by cases q)
set_option maxRecDepth 100000 in
theorem pm_k180_0 : pm_chkM pm_t180 (yX12_join, cX12_join, 3, (some .int), 12, 139) 0 139 = true := by decide +kernel
theorem pm_k180 {n : Nat} {e : pm_E} (h : pm_t180 n = some e) : pm_chk yX12_join cX12_join (some .int) 12 n e = true := by
  rcases Nat.lt_or_ge n 139 with hn | hn
  · have q := pm_chkM_get pm_k180_0 h (Nat.zero_le _) (by rw [Nat.zero_add]; exact hn)
    exact q
  · exact absurd h (by rw [pm_t180_out hn]; exact fun q => by cases q)
set_option maxRecDepth 100000 in
theorem pm_k181_0 : pm_chkM pm_t181 (yX12_beamOf, cX12_beamOf, 5, (some .int), 12, 159) 0 159 = true := by decide +kernel
theorem pm_k181 {n : Nat} {e : pm_E} (h : pm_t181 n = some e) : pm_chk yX12_beamOf cX12_beamOf (some .int) 12 n e = true := by
  rcases Nat.lt_or_ge n 159 with hn | hn
  · have q := pm_chkM_get pm_k181_0 h (Nat.zero_le _) (by rw [Nat.zero_add]; exact hn)
    exact q
  · exact absurd h (by rw [pm_t181_out hn]; exact fun q => by cases q)
set_option maxRecDepth 100000 in
theorem pm_k182_0 : pm_chkM pm_t182 (yX12_orderOf, cX12_orderOf, 3, (some .int), 12, 87) 0 87 = true := by decide +kernel
theorem pm_k182 {n : Nat} {e : pm_E} (h : pm_t182 n = some e) : pm_chk yX12_orderOf cX12_orderOf (some .int) 12 n e = true := by
  rcases Nat.lt_or_ge n 87 with hn | hn
  · have q := pm_chkM_get pm_k182_0 h (Nat.zero_le _) (by rw [Nat.zero_add]; exact hn)
    exact q
  · exact absurd h (by rw [pm_t182_out hn]; exact fun q => by cases q)
set_option maxRecDepth 100000 in
theorem pm_k183_0 : pm_chkM pm_t183 (yX12_count, cX12_count, 4, (some .int), 12, 153) 0 153 = true := by decide +kernel
theorem pm_k183 {n : Nat} {e : pm_E} (h : pm_t183 n = some e) : pm_chk yX12_count cX12_count (some .int) 12 n e = true := by
  rcases Nat.lt_or_ge n 153 with hn | hn
  · have q := pm_chkM_get pm_k183_0 h (Nat.zero_le _) (by rw [Nat.zero_add]; exact hn)
    exact q
  · exact absurd h (by rw [pm_t183_out hn]; exact fun q => by cases q)
set_option maxRecDepth 100000 in
theorem pm_k184_0 : pm_chkM pm_t184 (yJ6_bitCount_0f7a4, cJ6_bitCount_0f7a4, 1, (some .int), 14, 53) 0 53 = true := by decide +kernel
theorem pm_k184 {n : Nat} {e : pm_E} (h : pm_t184 n = some e) : pm_chk yJ6_bitCount_0f7a4 cJ6_bitCount_0f7a4 (some .int) 14 n e = true := by
  rcases Nat.lt_or_ge n 53 with hn | hn
  · have q := pm_chkM_get pm_k184_0 h (Nat.zero_le _) (by rw [Nat.zero_add]; exact hn)
    exact q
  · exact absurd h (by rw [pm_t184_out hn]; exact fun q => by cases q)
