set_option maxRecDepth 100000 in
theorem pm_k185_0 : pm_lw (pm_F pm_t185 yJ7_fill_d0a16 cJ7_fill_d0a16 none 15) (List.range' 0 23) cJ7_fill_d0a16.data.toList = true := by decide +kernel
theorem pm_k185 {n : Nat} {e : pm_E} (h : pm_t185 n = some e) : pm_chk yJ7_fill_d0a16 cJ7_fill_d0a16 none 15 n e = true := by
  rcases Nat.lt_or_ge n 23 with hn | hn
  · exact pm_kl pm_k185_0 hn h
  · exact absurd h (by rw [pm_t185_out hn]; exact fun q => by cases q)
set_option maxRecDepth 100000 in
theorem pm_k186_0 : pm_lw (pm_F pm_t186 yL_law cL_law (some .boolean) 13) (List.range' 0 1311) cL_law.data.toList = true := by decide +kernel
theorem pm_k186 {n : Nat} {e : pm_E} (h : pm_t186 n = some e) : pm_chk yL_law cL_law (some .boolean) 13 n e = true := by
  rcases Nat.lt_or_ge n 1311 with hn | hn
  · exact pm_kl pm_k186_0 hn h
  · exact absurd h (by rw [pm_t186_out hn]; exact fun q => by cases q)

