set_option maxRecDepth 100000 in
theorem pm_k160_0 : pm_lw (pm_F pm_t160 yX12_set cX12_set (some .int) 12) (List.range' 0 100) cX12_set.data.toList = true := by decide +kernel
theorem pm_k160 {n : Nat} {e : pm_E} (h : pm_t160 n = some e) : pm_chk yX12_set cX12_set (some .int) 12 n e = true := by
  rcases Nat.lt_or_ge n 100 with hn | hn
  · exact pm_kl pm_k160_0 hn h
  · exact absurd h (by rw [pm_t160_out hn]; exact fun q => by cases q)
set_option maxRecDepth 100000 in
theorem pm_k161_0 : pm_lw (pm_F pm_t161 yX12_order cX12_order (some .int) 12) (List.range' 0 112) cX12_order.data.toList = true := by decide +kernel
theorem pm_k161 {n : Nat} {e : pm_E} (h : pm_t161 n = some e) : pm_chk yX12_order cX12_order (some .int) 12 n e = true := by
  rcases Nat.lt_or_ge n 112 with hn | hn
  · exact pm_kl pm_k161_0 hn h
  · exact absurd h (by rw [pm_t161_out hn]; exact fun q => by cases q)
set_option maxRecDepth 100000 in
theorem pm_k162_0 : pm_lw (pm_F pm_t162 yX12_daysOf cX12_daysOf (some .int) 12) (List.range' 0 38) cX12_daysOf.data.toList = true := by decide +kernel
theorem pm_k162 {n : Nat} {e : pm_E} (h : pm_t162 n = some e) : pm_chk yX12_daysOf cX12_daysOf (some .int) 12 n e = true := by
  rcases Nat.lt_or_ge n 38 with hn | hn
  · exact pm_kl pm_k162_0 hn h
  · exact absurd h (by rw [pm_t162_out hn]; exact fun q => by cases q)
set_option maxRecDepth 100000 in
theorem pm_k163_0 : pm_lw (pm_F pm_t163 yX12_ask cX12_ask (some .boolean) 12) (List.range' 0 74) cX12_ask.data.toList = true := by decide +kernel
theorem pm_k163 {n : Nat} {e : pm_E} (h : pm_t163 n = some e) : pm_chk yX12_ask cX12_ask (some .boolean) 12 n e = true := by
  rcases Nat.lt_or_ge n 74 with hn | hn
  · exact pm_kl pm_k163_0 hn h
  · exact absurd h (by rw [pm_t163_out hn]; exact fun q => by cases q)
set_option maxRecDepth 100000 in
theorem pm_k164_0 : pm_lw (pm_F pm_t164 yX12_findRow cX12_findRow none 12) (List.range' 0 134) cX12_findRow.data.toList = true := by decide +kernel
theorem pm_k164 {n : Nat} {e : pm_E} (h : pm_t164 n = some e) : pm_chk yX12_findRow cX12_findRow none 12 n e = true := by
  rcases Nat.lt_or_ge n 134 with hn | hn
  · exact pm_kl pm_k164_0 hn h
  · exact absurd h (by rw [pm_t164_out hn]; exact fun q => by cases q)
set_option maxRecDepth 100000 in
theorem pm_k165_0 : pm_lw (pm_F pm_t165 yX12_findBest cX12_findBest (some .int) 12) (List.range' 0 195) cX12_findBest.data.toList = true := by decide +kernel
theorem pm_k165 {n : Nat} {e : pm_E} (h : pm_t165 n = some e) : pm_chk yX12_findBest cX12_findBest (some .int) 12 n e = true := by
  rcases Nat.lt_or_ge n 195 with hn | hn
  · exact pm_kl pm_k165_0 hn h
  · exact absurd h (by rw [pm_t165_out hn]; exact fun q => by cases q)
set_option maxRecDepth 100000 in
theorem pm_k166_0 : pm_lw (pm_F pm_t166 yX12_best cX12_best (some .int) 12) (List.range' 0 21) cX12_best.data.toList = true := by decide +kernel
theorem pm_k166 {n : Nat} {e : pm_E} (h : pm_t166 n = some e) : pm_chk yX12_best cX12_best (some .int) 12 n e = true := by
  rcases Nat.lt_or_ge n 21 with hn | hn
  · exact pm_kl pm_k166_0 hn h
  · exact absurd h (by rw [pm_t166_out hn]; exact fun q => by cases q)
set_option maxRecDepth 100000 in
theorem pm_k167_0 : pm_lw (pm_F pm_t167 yX12_bestAt cX12_bestAt (some .int) 12) (List.range' 0 43) cX12_bestAt.data.toList = true := by decide +kernel
theorem pm_k167 {n : Nat} {e : pm_E} (h : pm_t167 n = some e) : pm_chk yX12_bestAt cX12_bestAt (some .int) 12 n e = true := by
  rcases Nat.lt_or_ge n 43 with hn | hn
  · exact pm_kl pm_k167_0 hn h
  · exact absurd h (by rw [pm_t167_out hn]; exact fun q => by cases q)
set_option maxRecDepth 100000 in
theorem pm_k168_0 : pm_lw (pm_F pm_t168 yX12_lawAt cX12_lawAt (some .int) 12) (List.range' 0 55) cX12_lawAt.data.toList = true := by decide +kernel
theorem pm_k168 {n : Nat} {e : pm_E} (h : pm_t168 n = some e) : pm_chk yX12_lawAt cX12_lawAt (some .int) 12 n e = true := by
  rcases Nat.lt_or_ge n 55 with hn | hn
  · exact pm_kl pm_k168_0 hn h
  · exact absurd h (by rw [pm_t168_out hn]; exact fun q => by cases q)
set_option maxRecDepth 100000 in
theorem pm_k169_0 : pm_lw (pm_F pm_t169 yX12_work cX12_work (some .int) 12) (List.range' 0 163) cX12_work.data.toList = true := by decide +kernel
theorem pm_k169 {n : Nat} {e : pm_E} (h : pm_t169 n = some e) : pm_chk yX12_work cX12_work (some .int) 12 n e = true := by
  rcases Nat.lt_or_ge n 163 with hn | hn
  · exact pm_kl pm_k169_0 hn h
  · exact absurd h (by rw [pm_t169_out hn]; exact fun q => by cases q)
set_option maxRecDepth 100000 in
theorem pm_k170_0 : pm_lw (pm_F pm_t170 yX12_days cX12_days (some .int) 12) (List.range' 0 46) cX12_days.data.toList = true := by decide +kernel
theorem pm_k170 {n : Nat} {e : pm_E} (h : pm_t170 n = some e) : pm_chk yX12_days cX12_days (some .int) 12 n e = true := by
  rcases Nat.lt_or_ge n 46 with hn | hn
  · exact pm_kl pm_k170_0 hn h
  · exact absurd h (by rw [pm_t170_out hn]; exact fun q => by cases q)
set_option maxRecDepth 100000 in
theorem pm_k171_0 : pm_lw (pm_F pm_t171 yX12_law cX12_law (some .int) 12) (List.range' 0 107) cX12_law.data.toList = true := by decide +kernel
theorem pm_k171 {n : Nat} {e : pm_E} (h : pm_t171 n = some e) : pm_chk yX12_law cX12_law (some .int) 12 n e = true := by
  rcases Nat.lt_or_ge n 107 with hn | hn
  · exact pm_kl pm_k171_0 hn h
  · exact absurd h (by rw [pm_t171_out hn]; exact fun q => by cases q)
set_option maxRecDepth 100000 in
theorem pm_k172_0 : pm_lw (pm_F pm_t172 yX12_silk cX12_silk (some .int) 12) (List.range' 0 138) cX12_silk.data.toList = true := by decide +kernel
theorem pm_k172 {n : Nat} {e : pm_E} (h : pm_t172 n = some e) : pm_chk yX12_silk cX12_silk (some .int) 12 n e = true := by
  rcases Nat.lt_or_ge n 138 with hn | hn
  · exact pm_kl pm_k172_0 hn h
  · exact absurd h (by rw [pm_t172_out hn]; exact fun q => by cases q)
set_option maxRecDepth 100000 in
theorem pm_k173_0 : pm_lw (pm_F pm_t173 yX12_account cX12_account (some .int) 12) (List.range' 0 107) cX12_account.data.toList = true := by decide +kernel
theorem pm_k173 {n : Nat} {e : pm_E} (h : pm_t173 n = some e) : pm_chk yX12_account cX12_account (some .int) 12 n e = true := by
  rcases Nat.lt_or_ge n 107 with hn | hn
  · exact pm_kl pm_k173_0 hn h
  · exact absurd h (by rw [pm_t173_out hn]; exact fun q => by cases q)
set_option maxRecDepth 100000 in
theorem pm_k174_0 : pm_lw (pm_F pm_t174 yX12_isBeam cX12_isBeam (some .boolean) 12) (List.range' 0 7) cX12_isBeam.data.toList = true := by decide +kernel
theorem pm_k174 {n : Nat} {e : pm_E} (h : pm_t174 n = some e) : pm_chk yX12_isBeam cX12_isBeam (some .boolean) 12 n e = true := by
  rcases Nat.lt_or_ge n 7 with hn | hn
  · exact pm_kl pm_k174_0 hn h
  · exact absurd h (by rw [pm_t174_out hn]; exact fun q => by cases q)
set_option maxRecDepth 100000 in
theorem pm_k175_0 : pm_lw (pm_F pm_t175 yX12_warp cX12_warp (some .int) 12) (List.range' 0 71) cX12_warp.data.toList = true := by decide +kernel
theorem pm_k175 {n : Nat} {e : pm_E} (h : pm_t175 n = some e) : pm_chk yX12_warp cX12_warp (some .int) 12 n e = true := by
  rcases Nat.lt_or_ge n 71 with hn | hn
  · exact pm_kl pm_k175_0 hn h
  · exact absurd h (by rw [pm_t175_out hn]; exact fun q => by cases q)
set_option maxRecDepth 100000 in
theorem pm_k176_0 : pm_lw (pm_F pm_t176 yX12_cards cX12_cards (some .int) 12) (List.range' 0 91) cX12_cards.data.toList = true := by decide +kernel
theorem pm_k176 {n : Nat} {e : pm_E} (h : pm_t176 n = some e) : pm_chk yX12_cards cX12_cards (some .int) 12 n e = true := by
  rcases Nat.lt_or_ge n 91 with hn | hn
  · exact pm_kl pm_k176_0 hn h
  · exact absurd h (by rw [pm_t176_out hn]; exact fun q => by cases q)
set_option maxRecDepth 100000 in
theorem pm_k177_0 : pm_lw (pm_F pm_t177 yX12_lacks cX12_lacks (some .int) 12) (List.range' 0 42) cX12_lacks.data.toList = true := by decide +kernel
theorem pm_k177 {n : Nat} {e : pm_E} (h : pm_t177 n = some e) : pm_chk yX12_lacks cX12_lacks (some .int) 12 n e = true := by
  rcases Nat.lt_or_ge n 42 with hn | hn
  · exact pm_kl pm_k177_0 hn h
  · exact absurd h (by rw [pm_t177_out hn]; exact fun q => by cases q)
set_option maxRecDepth 100000 in
theorem pm_k178_0 : pm_lw (pm_F pm_t178 yX12_hang cX12_hang (some .int) 12) (List.range' 0 80) cX12_hang.data.toList = true := by decide +kernel
theorem pm_k178 {n : Nat} {e : pm_E} (h : pm_t178 n = some e) : pm_chk yX12_hang cX12_hang (some .int) 12 n e = true := by
  rcases Nat.lt_or_ge n 80 with hn | hn
  · exact pm_kl pm_k178_0 hn h
  · exact absurd h (by rw [pm_t178_out hn]; exact fun q => by cases q)
set_option maxRecDepth 100000 in
theorem pm_k179_0 : pm_lw (pm_F pm_t179 yX12_cut cX12_cut (some .int) 12) (List.range' 0 83) cX12_cut.data.toList = true := by decide +kernel
theorem pm_k179 {n : Nat} {e : pm_E} (h : pm_t179 n = some e) : pm_chk yX12_cut cX12_cut (some .int) 12 n e = true := by
  rcases Nat.lt_or_ge n 83 with hn | hn
  · exact pm_kl pm_k179_0 hn h
  · exact absurd h (by rw [pm_t179_out hn]; exact fun q => by cases q)
set_option maxRecDepth 100000 in
theorem pm_k180_0 : pm_lw (pm_F pm_t180 yX12_join cX12_join (some .int) 12) (List.range' 0 139) cX12_join.data.toList = true := by decide +kernel
theorem pm_k180 {n : Nat} {e : pm_E} (h : pm_t180 n = some e) : pm_chk yX12_join cX12_join (some .int) 12 n e = true := by
  rcases Nat.lt_or_ge n 139 with hn | hn
  · exact pm_kl pm_k180_0 hn h
  · exact absurd h (by rw [pm_t180_out hn]; exact fun q => by cases q)
set_option maxRecDepth 100000 in
theorem pm_k181_0 : pm_lw (pm_F pm_t181 yX12_beamOf cX12_beamOf (some .int) 12) (List.range' 0 159) cX12_beamOf.data.toList = true := by decide +kernel
theorem pm_k181 {n : Nat} {e : pm_E} (h : pm_t181 n = some e) : pm_chk yX12_beamOf cX12_beamOf (some .int) 12 n e = true := by
  rcases Nat.lt_or_ge n 159 with hn | hn
  · exact pm_kl pm_k181_0 hn h
  · exact absurd h (by rw [pm_t181_out hn]; exact fun q => by cases q)
set_option maxRecDepth 100000 in
theorem pm_k182_0 : pm_lw (pm_F pm_t182 yX12_orderOf cX12_orderOf (some .int) 12) (List.range' 0 87) cX12_orderOf.data.toList = true := by decide +kernel
theorem pm_k182 {n : Nat} {e : pm_E} (h : pm_t182 n = some e) : pm_chk yX12_orderOf cX12_orderOf (some .int) 12 n e = true := by
  rcases Nat.lt_or_ge n 87 with hn | hn
  · exact pm_kl pm_k182_0 hn h
  · exact absurd h (by rw [pm_t182_out hn]; exact fun q => by cases q)
set_option maxRecDepth 100000 in
theorem pm_k183_0 : pm_lw (pm_F pm_t183 yX12_count cX12_count (some .int) 12) (List.range' 0 153) cX12_count.data.toList = true := by decide +kernel
theorem pm_k183 {n : Nat} {e : pm_E} (h : pm_t183 n = some e) : pm_chk yX12_count cX12_count (some .int) 12 n e = true := by
  rcases Nat.lt_or_ge n 153 with hn | hn
  · exact pm_kl pm_k183_0 hn h
  · exact absurd h (by rw [pm_t183_out hn]; exact fun q => by cases q)
set_option maxRecDepth 100000 in
theorem pm_k184_0 : pm_lw (pm_F pm_t184 yJ6_bitCount_0f7a4 cJ6_bitCount_0f7a4 (some .int) 14) (List.range' 0 53) cJ6_bitCount_0f7a4.data.toList = true := by decide +kernel
theorem pm_k184 {n : Nat} {e : pm_E} (h : pm_t184 n = some e) : pm_chk yJ6_bitCount_0f7a4 cJ6_bitCount_0f7a4 (some .int) 14 n e = true := by
  rcases Nat.lt_or_ge n 53 with hn | hn
  · exact pm_kl pm_k184_0 hn h
  · exact absurd h (by rw [pm_t184_out hn]; exact fun q => by cases q)

