set_option maxRecDepth 100000 in
theorem pm_k98_0 : pm_lw (pm_F pm_t98 yX11_silk cX11_silk (some .int) 11) (List.range' 0 113) cX11_silk.data.toList = true := by decide +kernel
theorem pm_k98 {n : Nat} {e : pm_E} (h : pm_t98 n = some e) : pm_chk yX11_silk cX11_silk (some .int) 11 n e = true := by
  rcases Nat.lt_or_ge n 113 with hn | hn
  · exact pm_kl pm_k98_0 hn h
  · exact absurd h (by rw [pm_t98_out hn]; exact fun q => by cases q)
set_option maxRecDepth 100000 in
theorem pm_k99_0 : pm_lw (pm_F pm_t99 yX11_account cX11_account (some .int) 11) (List.range' 0 102) cX11_account.data.toList = true := by decide +kernel
theorem pm_k99 {n : Nat} {e : pm_E} (h : pm_t99 n = some e) : pm_chk yX11_account cX11_account (some .int) 11 n e = true := by
  rcases Nat.lt_or_ge n 102 with hn | hn
  · exact pm_kl pm_k99_0 hn h
  · exact absurd h (by rw [pm_t99_out hn]; exact fun q => by cases q)
set_option maxRecDepth 100000 in
theorem pm_k100_0 : pm_lw (pm_F pm_t100 yX11_warp cX11_warp (some .int) 11) (List.range' 0 71) cX11_warp.data.toList = true := by decide +kernel
theorem pm_k100 {n : Nat} {e : pm_E} (h : pm_t100 n = some e) : pm_chk yX11_warp cX11_warp (some .int) 11 n e = true := by
  rcases Nat.lt_or_ge n 71 with hn | hn
  · exact pm_kl pm_k100_0 hn h
  · exact absurd h (by rw [pm_t100_out hn]; exact fun q => by cases q)
set_option maxRecDepth 100000 in
theorem pm_k101_0 : pm_lw (pm_F pm_t101 yX11_cards cX11_cards (some .int) 11) (List.range' 0 48) cX11_cards.data.toList = true := by decide +kernel
theorem pm_k101 {n : Nat} {e : pm_E} (h : pm_t101 n = some e) : pm_chk yX11_cards cX11_cards (some .int) 11 n e = true := by
  rcases Nat.lt_or_ge n 48 with hn | hn
  · exact pm_kl pm_k101_0 hn h
  · exact absurd h (by rw [pm_t101_out hn]; exact fun q => by cases q)
set_option maxRecDepth 100000 in
theorem pm_k102_0 : pm_lw (pm_F pm_t102 yX11_hang cX11_hang (some .int) 11) (List.range' 0 67) cX11_hang.data.toList = true := by decide +kernel
theorem pm_k102 {n : Nat} {e : pm_E} (h : pm_t102 n = some e) : pm_chk yX11_hang cX11_hang (some .int) 11 n e = true := by
  rcases Nat.lt_or_ge n 67 with hn | hn
  · exact pm_kl pm_k102_0 hn h
  · exact absurd h (by rw [pm_t102_out hn]; exact fun q => by cases q)
set_option maxRecDepth 100000 in
theorem pm_k103_0 : pm_lw (pm_F pm_t103 yX11_cut cX11_cut (some .int) 11) (List.range' 0 97) cX11_cut.data.toList = true := by decide +kernel
theorem pm_k103 {n : Nat} {e : pm_E} (h : pm_t103 n = some e) : pm_chk yX11_cut cX11_cut (some .int) 11 n e = true := by
  rcases Nat.lt_or_ge n 97 with hn | hn
  · exact pm_kl pm_k103_0 hn h
  · exact absurd h (by rw [pm_t103_out hn]; exact fun q => by cases q)
set_option maxRecDepth 100000 in
theorem pm_k104_0 : pm_lw (pm_F pm_t104 yX11_join cX11_join (some .int) 11) (List.range' 0 146) cX11_join.data.toList = true := by decide +kernel
theorem pm_k104 {n : Nat} {e : pm_E} (h : pm_t104 n = some e) : pm_chk yX11_join cX11_join (some .int) 11 n e = true := by
  rcases Nat.lt_or_ge n 146 with hn | hn
  · exact pm_kl pm_k104_0 hn h
  · exact absurd h (by rw [pm_t104_out hn]; exact fun q => by cases q)
set_option maxRecDepth 100000 in
theorem pm_k105_0 : pm_lw (pm_F pm_t105 yX11_beamOf cX11_beamOf (some .int) 11) (List.range' 0 81) cX11_beamOf.data.toList = true := by decide +kernel
theorem pm_k105 {n : Nat} {e : pm_E} (h : pm_t105 n = some e) : pm_chk yX11_beamOf cX11_beamOf (some .int) 11 n e = true := by
  rcases Nat.lt_or_ge n 81 with hn | hn
  · exact pm_kl pm_k105_0 hn h
  · exact absurd h (by rw [pm_t105_out hn]; exact fun q => by cases q)
set_option maxRecDepth 100000 in
theorem pm_k106_0 : pm_lw (pm_F pm_t106 yX11_orderOf cX11_orderOf (some .int) 11) (List.range' 0 99) cX11_orderOf.data.toList = true := by decide +kernel
theorem pm_k106 {n : Nat} {e : pm_E} (h : pm_t106 n = some e) : pm_chk yX11_orderOf cX11_orderOf (some .int) 11 n e = true := by
  rcases Nat.lt_or_ge n 99 with hn | hn
  · exact pm_kl pm_k106_0 hn h
  · exact absurd h (by rw [pm_t106_out hn]; exact fun q => by cases q)
set_option maxRecDepth 100000 in
theorem pm_k107_0 : pm_lw (pm_F pm_t107 yX11_count cX11_count (some .int) 11) (List.range' 0 137) cX11_count.data.toList = true := by decide +kernel
theorem pm_k107 {n : Nat} {e : pm_E} (h : pm_t107 n = some e) : pm_chk yX11_count cX11_count (some .int) 11 n e = true := by
  rcases Nat.lt_or_ge n 137 with hn | hn
  · exact pm_kl pm_k107_0 hn h
  · exact absurd h (by rw [pm_t107_out hn]; exact fun q => by cases q)
set_option maxRecDepth 100000 in
theorem pm_k108_0 : pm_lw (pm_F pm_t108 yX11_refuse cX11_refuse (some .int) 11) (List.range' 0 26) cX11_refuse.data.toList = true := by decide +kernel
theorem pm_k108 {n : Nat} {e : pm_E} (h : pm_t108 n = some e) : pm_chk yX11_refuse cX11_refuse (some .int) 11 n e = true := by
  rcases Nat.lt_or_ge n 26 with hn | hn
  · exact pm_kl pm_k108_0 hn h
  · exact absurd h (by rw [pm_t108_out hn]; exact fun q => by cases q)
set_option maxRecDepth 100000 in
theorem pm_k109_0 : pm_lw (pm_F pm_t109 yX11_refusalsOf cX11_refusalsOf (some .int) 11) (List.range' 0 23) cX11_refusalsOf.data.toList = true := by decide +kernel
theorem pm_k109 {n : Nat} {e : pm_E} (h : pm_t109 n = some e) : pm_chk yX11_refusalsOf cX11_refusalsOf (some .int) 11 n e = true := by
  rcases Nat.lt_or_ge n 23 with hn | hn
  · exact pm_kl pm_k109_0 hn h
  · exact absurd h (by rw [pm_t109_out hn]; exact fun q => by cases q)
set_option maxRecDepth 100000 in
theorem pm_k110_0 : pm_lw (pm_F pm_t110 yX11_readLines cX11_readLines none 11) (List.range' 0 30) cX11_readLines.data.toList = true := by decide +kernel
theorem pm_k110 {n : Nat} {e : pm_E} (h : pm_t110 n = some e) : pm_chk yX11_readLines cX11_readLines none 11 n e = true := by
  rcases Nat.lt_or_ge n 30 with hn | hn
  · exact pm_kl pm_k110_0 hn h
  · exact absurd h (by rw [pm_t110_out hn]; exact fun q => by cases q)
set_option maxRecDepth 100000 in
theorem pm_k111_0 : pm_lw (pm_F pm_t111 yX11_pickAndColour cX11_pickAndColour (some .int) 11) (List.range' 0 77) cX11_pickAndColour.data.toList = true := by decide +kernel
theorem pm_k111 {n : Nat} {e : pm_E} (h : pm_t111 n = some e) : pm_chk yX11_pickAndColour cX11_pickAndColour (some .int) 11 n e = true := by
  rcases Nat.lt_or_ge n 77 with hn | hn
  · exact pm_kl pm_k111_0 hn h
  · exact absurd h (by rw [pm_t111_out hn]; exact fun q => by cases q)
set_option maxRecDepth 100000 in
theorem pm_k112_0 : pm_lw (pm_F pm_t112 yX11_canBeFault cX11_canBeFault (some .boolean) 11) (List.range' 0 84) cX11_canBeFault.data.toList = true := by decide +kernel
theorem pm_k112 {n : Nat} {e : pm_E} (h : pm_t112 n = some e) : pm_chk yX11_canBeFault cX11_canBeFault (some .boolean) 11 n e = true := by
  rcases Nat.lt_or_ge n 84 with hn | hn
  · exact pm_kl pm_k112_0 hn h
  · exact absurd h (by rw [pm_t112_out hn]; exact fun q => by cases q)
set_option maxRecDepth 100000 in
theorem pm_k113_0 : pm_lw (pm_F pm_t113 yX11_isPlace cX11_isPlace (some .boolean) 11) (List.range' 0 15) cX11_isPlace.data.toList = true := by decide +kernel
theorem pm_k113 {n : Nat} {e : pm_E} (h : pm_t113 n = some e) : pm_chk yX11_isPlace cX11_isPlace (some .boolean) 11 n e = true := by
  rcases Nat.lt_or_ge n 15 with hn | hn
  · exact pm_kl pm_k113_0 hn h
  · exact absurd h (by rw [pm_t113_out hn]; exact fun q => by cases q)
set_option maxRecDepth 100000 in
theorem pm_k114_0 : pm_lw (pm_F pm_t114 yX11_isColour cX11_isColour (some .boolean) 11) (List.range' 0 6) cX11_isColour.data.toList = true := by decide +kernel
theorem pm_k114 {n : Nat} {e : pm_E} (h : pm_t114 n = some e) : pm_chk yX11_isColour cX11_isColour (some .boolean) 11 n e = true := by
  rcases Nat.lt_or_ge n 6 with hn | hn
  · exact pm_kl pm_k114_0 hn h
  · exact absurd h (by rw [pm_t114_out hn]; exact fun q => by cases q)
set_option maxRecDepth 100000 in
theorem pm_k115_0 : pm_lw (pm_F pm_t115 yX11_around cX11_around (some .int) 11) (List.range' 0 21) cX11_around.data.toList = true := by decide +kernel
theorem pm_k115 {n : Nat} {e : pm_E} (h : pm_t115 n = some e) : pm_chk yX11_around cX11_around (some .int) 11 n e = true := by
  rcases Nat.lt_or_ge n 21 with hn | hn
  · exact pm_kl pm_k115_0 hn h
  · exact absurd h (by rw [pm_t115_out hn]; exact fun q => by cases q)
set_option maxRecDepth 100000 in
theorem pm_k116_0 : pm_lw (pm_F pm_t116 yX12_init cX12_init none 12) (List.range' 0 293) cX12_init.data.toList = true := by decide +kernel
theorem pm_k116 {n : Nat} {e : pm_E} (h : pm_t116 n = some e) : pm_chk yX12_init cX12_init none 12 n e = true := by
  rcases Nat.lt_or_ge n 293 with hn | hn
  · exact pm_kl pm_k116_0 hn h
  · exact absurd h (by rw [pm_t116_out hn]; exact fun q => by cases q)
set_option maxRecDepth 100000 in
theorem pm_k117_0 : pm_lw (pm_F pm_t117 yX12_in cX12_in (some .boolean) 12) (List.range' 0 16) cX12_in.data.toList = true := by decide +kernel
theorem pm_k117 {n : Nat} {e : pm_E} (h : pm_t117 n = some e) : pm_chk yX12_in cX12_in (some .boolean) 12 n e = true := by
  rcases Nat.lt_or_ge n 16 with hn | hn
  · exact pm_kl pm_k117_0 hn h
  · exact absurd h (by rw [pm_t117_out hn]; exact fun q => by cases q)
set_option maxRecDepth 100000 in
theorem pm_k118_0 : pm_lw (pm_F pm_t118 yX12_refuse cX12_refuse (some .int) 12) (List.range' 0 13) cX12_refuse.data.toList = true := by decide +kernel
theorem pm_k118 {n : Nat} {e : pm_E} (h : pm_t118 n = some e) : pm_chk yX12_refuse cX12_refuse (some .int) 12 n e = true := by
  rcases Nat.lt_or_ge n 13 with hn | hn
  · exact pm_kl pm_k118_0 hn h
  · exact absurd h (by rw [pm_t118_out hn]; exact fun q => by cases q)
set_option maxRecDepth 100000 in
theorem pm_k119_0 : pm_lw (pm_F pm_t119 yX12_colour cX12_colour (some .int) 12) (List.range' 0 12) cX12_colour.data.toList = true := by decide +kernel
theorem pm_k119 {n : Nat} {e : pm_E} (h : pm_t119 n = some e) : pm_chk yX12_colour cX12_colour (some .int) 12 n e = true := by
  rcases Nat.lt_or_ge n 12 with hn | hn
  · exact pm_kl pm_k119_0 hn h
  · exact absurd h (by rw [pm_t119_out hn]; exact fun q => by cases q)
set_option maxRecDepth 100000 in
theorem pm_k120_0 : pm_lw (pm_F pm_t120 yX12_isSquare cX12_isSquare (some .boolean) 12) (List.range' 0 34) cX12_isSquare.data.toList = true := by decide +kernel
theorem pm_k120 {n : Nat} {e : pm_E} (h : pm_t120 n = some e) : pm_chk yX12_isSquare cX12_isSquare (some .boolean) 12 n e = true := by
  rcases Nat.lt_or_ge n 34 with hn | hn
  · exact pm_kl pm_k120_0 hn h
  · exact absurd h (by rw [pm_t120_out hn]; exact fun q => by cases q)
set_option maxRecDepth 100000 in
theorem pm_k121_0 : pm_lw (pm_F pm_t121 yX12_paper cX12_paper (some .int) 12) (List.range' 0 70) cX12_paper.data.toList = true := by decide +kernel
theorem pm_k121 {n : Nat} {e : pm_E} (h : pm_t121 n = some e) : pm_chk yX12_paper cX12_paper (some .int) 12 n e = true := by
  rcases Nat.lt_or_ge n 70 with hn | hn
  · exact pm_kl pm_k121_0 hn h
  · exact absurd h (by rw [pm_t121_out hn]; exact fun q => by cases q)
set_option maxRecDepth 100000 in
theorem pm_k122_0 : pm_lw (pm_F pm_t122 yX12_square cX12_square (some .int) 12) (List.range' 0 47) cX12_square.data.toList = true := by decide +kernel
theorem pm_k122 {n : Nat} {e : pm_E} (h : pm_t122 n = some e) : pm_chk yX12_square cX12_square (some .int) 12 n e = true := by
  rcases Nat.lt_or_ge n 47 with hn | hn
  · exact pm_kl pm_k122_0 hn h
  · exact absurd h (by rw [pm_t122_out hn]; exact fun q => by cases q)
set_option maxRecDepth 100000 in
theorem pm_k123_0 : pm_lw (pm_F pm_t123 yX12_fill cX12_fill (some .int) 12) (List.range' 0 89) cX12_fill.data.toList = true := by decide +kernel
theorem pm_k123 {n : Nat} {e : pm_E} (h : pm_t123 n = some e) : pm_chk yX12_fill cX12_fill (some .int) 12 n e = true := by
  rcases Nat.lt_or_ge n 89 with hn | hn
  · exact pm_kl pm_k123_0 hn h
  · exact absurd h (by rw [pm_t123_out hn]; exact fun q => by cases q)
set_option maxRecDepth 100000 in
theorem pm_k124_0 : pm_lw (pm_F pm_t124 yX12_at cX12_at (some .int) 12) (List.range' 0 24) cX12_at.data.toList = true := by decide +kernel
theorem pm_k124 {n : Nat} {e : pm_E} (h : pm_t124 n = some e) : pm_chk yX12_at cX12_at (some .int) 12 n e = true := by
  rcases Nat.lt_or_ge n 24 with hn | hn
  · exact pm_kl pm_k124_0 hn h
  · exact absurd h (by rw [pm_t124_out hn]; exact fun q => by cases q)
set_option maxRecDepth 100000 in
theorem pm_k125_0 : pm_lw (pm_F pm_t125 yX12_isSame cX12_isSame (some .boolean) 12) (List.range' 0 83) cX12_isSame.data.toList = true := by decide +kernel
theorem pm_k125 {n : Nat} {e : pm_E} (h : pm_t125 n = some e) : pm_chk yX12_isSame cX12_isSame (some .boolean) 12 n e = true := by
  rcases Nat.lt_or_ge n 83 with hn | hn
  · exact pm_kl pm_k125_0 hn h
  · exact absurd h (by rw [pm_t125_out hn]; exact fun q => by cases q)
set_option maxRecDepth 100000 in
theorem pm_k126_0 : pm_lw (pm_F pm_t126 yX12_span cX12_span (some .int) 12) (List.range' 0 73) cX12_span.data.toList = true := by decide +kernel
theorem pm_k126 {n : Nat} {e : pm_E} (h : pm_t126 n = some e) : pm_chk yX12_span cX12_span (some .int) 12 n e = true := by
  rcases Nat.lt_or_ge n 73 with hn | hn
  · exact pm_kl pm_k126_0 hn h
  · exact absurd h (by rw [pm_t126_out hn]; exact fun q => by cases q)
set_option maxRecDepth 100000 in
theorem pm_k127_0 : pm_lw (pm_F pm_t127 yX12_isMirror cX12_isMirror (some .boolean) 12) (List.range' 0 145) cX12_isMirror.data.toList = true := by decide +kernel
theorem pm_k127 {n : Nat} {e : pm_E} (h : pm_t127 n = some e) : pm_chk yX12_isMirror cX12_isMirror (some .boolean) 12 n e = true := by
  rcases Nat.lt_or_ge n 145 with hn | hn
  · exact pm_kl pm_k127_0 hn h
  · exact absurd h (by rw [pm_t127_out hn]; exact fun q => by cases q)
set_option maxRecDepth 100000 in
theorem pm_k128_0 : pm_lw (pm_F pm_t128 yX12_mirror cX12_mirror (some .int) 12) (List.range' 0 66) cX12_mirror.data.toList = true := by decide +kernel
theorem pm_k128 {n : Nat} {e : pm_E} (h : pm_t128 n = some e) : pm_chk yX12_mirror cX12_mirror (some .int) 12 n e = true := by
  rcases Nat.lt_or_ge n 66 with hn | hn
  · exact pm_kl pm_k128_0 hn h
  · exact absurd h (by rw [pm_t128_out hn]; exact fun q => by cases q)
set_option maxRecDepth 100000 in
theorem pm_k129_0 : pm_lw (pm_F pm_t129 yX12_areAlike cX12_areAlike (some .boolean) 12) (List.range' 0 49) cX12_areAlike.data.toList = true := by decide +kernel
theorem pm_k129 {n : Nat} {e : pm_E} (h : pm_t129 n = some e) : pm_chk yX12_areAlike cX12_areAlike (some .boolean) 12 n e = true := by
  rcases Nat.lt_or_ge n 49 with hn | hn
  · exact pm_kl pm_k129_0 hn h
  · exact absurd h (by rw [pm_t129_out hn]; exact fun q => by cases q)
set_option maxRecDepth 100000 in
theorem pm_k130_0 : pm_lw (pm_F pm_t130 yX12_findCords cX12_findCords none 12) (List.range' 0 118) cX12_findCords.data.toList = true := by decide +kernel
theorem pm_k130 {n : Nat} {e : pm_E} (h : pm_t130 n = some e) : pm_chk yX12_findCords cX12_findCords none 12 n e = true := by
  rcases Nat.lt_or_ge n 118 with hn | hn
  · exact pm_kl pm_k130_0 hn h
  · exact absurd h (by rw [pm_t130_out hn]; exact fun q => by cases q)
set_option maxRecDepth 100000 in
theorem pm_k131_0 : pm_lw (pm_F pm_t131 yX12_cords cX12_cords (some .int) 12) (List.range' 0 9) cX12_cords.data.toList = true := by decide +kernel
theorem pm_k131 {n : Nat} {e : pm_E} (h : pm_t131 n = some e) : pm_chk yX12_cords cX12_cords (some .int) 12 n e = true := by
  rcases Nat.lt_or_ge n 9 with hn | hn
  · exact pm_kl pm_k131_0 hn h
  · exact absurd h (by rw [pm_t131_out hn]; exact fun q => by cases q)
set_option maxRecDepth 100000 in
theorem pm_k132_0 : pm_lw (pm_F pm_t132 yX12_cord cX12_cord (some .int) 12) (List.range' 0 31) cX12_cord.data.toList = true := by decide +kernel
theorem pm_k132 {n : Nat} {e : pm_E} (h : pm_t132 n = some e) : pm_chk yX12_cord cX12_cord (some .int) 12 n e = true := by
  rcases Nat.lt_or_ge n 31 with hn | hn
  · exact pm_kl pm_k132_0 hn h
  · exact absurd h (by rw [pm_t132_out hn]; exact fun q => by cases q)

