set_option maxRecDepth 100000 in
theorem pm_k98_0 : pm_chkM pm_t98 (yX11_silk, cX11_silk, 6, (some .int), 11, 113) 0 113 = true := by decide +kernel
theorem pm_k98 {n : Nat} {e : pm_E} (h : pm_t98 n = some e) : pm_chk yX11_silk cX11_silk (some .int) 11 n e = true := by
  rcases Nat.lt_or_ge n 113 with hn | hn
  · have q := pm_chkM_get pm_k98_0 h (Nat.zero_le _) (by rw [Nat.zero_add]; exact hn)
    exact q
  · exact absurd h (by rw [pm_t98_out hn]; exact fun q => by cases q)
set_option maxRecDepth 100000 in
theorem pm_k99_0 : pm_chkM pm_t99 (yX11_account, cX11_account, 3, (some .int), 11, 102) 0 102 = true := by decide +kernel
theorem pm_k99 {n : Nat} {e : pm_E} (h : pm_t99 n = some e) : pm_chk yX11_account cX11_account (some .int) 11 n e = true := by
  rcases Nat.lt_or_ge n 102 with hn | hn
  · have q := pm_chkM_get pm_k99_0 h (Nat.zero_le _) (by rw [Nat.zero_add]; exact hn)
    exact q
  · exact absurd h (by rw [pm_t99_out hn]; exact fun q => by cases q)
set_option maxRecDepth 100000 in
theorem pm_k100_0 : pm_chkM pm_t100 (yX11_warp, cX11_warp, 3, (some .int), 11, 71) 0 71 = true := by decide +kernel
theorem pm_k100 {n : Nat} {e : pm_E} (h : pm_t100 n = some e) : pm_chk yX11_warp cX11_warp (some .int) 11 n e = true := by
  rcases Nat.lt_or_ge n 71 with hn | hn
  · have q := pm_chkM_get pm_k100_0 h (Nat.zero_le _) (by rw [Nat.zero_add]; exact hn)
    exact q
  · exact absurd h (by rw [pm_t100_out hn]; exact fun q => by cases q)
set_option maxRecDepth 100000 in
theorem pm_k101_0 : pm_chkM pm_t101 (yX11_cards, cX11_cards, 2, (some .int), 11, 48) 0 48 = true := by decide +kernel
theorem pm_k101 {n : Nat} {e : pm_E} (h : pm_t101 n = some e) : pm_chk yX11_cards cX11_cards (some .int) 11 n e = true := by
  rcases Nat.lt_or_ge n 48 with hn | hn
  · have q := pm_chkM_get pm_k101_0 h (Nat.zero_le _) (by rw [Nat.zero_add]; exact hn)
    exact q
  · exact absurd h (by rw [pm_t101_out hn]; exact fun q => by cases q)
set_option maxRecDepth 100000 in
theorem pm_k102_0 : pm_chkM pm_t102 (yX11_hang, cX11_hang, 3, (some .int), 11, 67) 0 67 = true := by decide +kernel
theorem pm_k102 {n : Nat} {e : pm_E} (h : pm_t102 n = some e) : pm_chk yX11_hang cX11_hang (some .int) 11 n e = true := by
  rcases Nat.lt_or_ge n 67 with hn | hn
  · have q := pm_chkM_get pm_k102_0 h (Nat.zero_le _) (by rw [Nat.zero_add]; exact hn)
    exact q
  · exact absurd h (by rw [pm_t102_out hn]; exact fun q => by cases q)
set_option maxRecDepth 100000 in
theorem pm_k103_0 : pm_chkM pm_t103 (yX11_cut, cX11_cut, 4, (some .int), 11, 97) 0 97 = true := by decide +kernel
theorem pm_k103 {n : Nat} {e : pm_E} (h : pm_t103 n = some e) : pm_chk yX11_cut cX11_cut (some .int) 11 n e = true := by
  rcases Nat.lt_or_ge n 97 with hn | hn
  · have q := pm_chkM_get pm_k103_0 h (Nat.zero_le _) (by rw [Nat.zero_add]; exact hn)
    exact q
  · exact absurd h (by rw [pm_t103_out hn]; exact fun q => by cases q)
set_option maxRecDepth 100000 in
theorem pm_k104_0 : pm_chkM pm_t104 (yX11_join, cX11_join, 6, (some .int), 11, 146) 0 146 = true := by decide +kernel
theorem pm_k104 {n : Nat} {e : pm_E} (h : pm_t104 n = some e) : pm_chk yX11_join cX11_join (some .int) 11 n e = true := by
  rcases Nat.lt_or_ge n 146 with hn | hn
  · have q := pm_chkM_get pm_k104_0 h (Nat.zero_le _) (by rw [Nat.zero_add]; exact hn)
    exact q
  · exact absurd h (by rw [pm_t104_out hn]; exact fun q => by cases q)
set_option maxRecDepth 100000 in
theorem pm_k105_0 : pm_chkM pm_t105 (yX11_beamOf, cX11_beamOf, 3, (some .int), 11, 81) 0 81 = true := by decide +kernel
theorem pm_k105 {n : Nat} {e : pm_E} (h : pm_t105 n = some e) : pm_chk yX11_beamOf cX11_beamOf (some .int) 11 n e = true := by
  rcases Nat.lt_or_ge n 81 with hn | hn
  · have q := pm_chkM_get pm_k105_0 h (Nat.zero_le _) (by rw [Nat.zero_add]; exact hn)
    exact q
  · exact absurd h (by rw [pm_t105_out hn]; exact fun q => by cases q)
set_option maxRecDepth 100000 in
theorem pm_k106_0 : pm_chkM pm_t106 (yX11_orderOf, cX11_orderOf, 3, (some .int), 11, 99) 0 99 = true := by decide +kernel
theorem pm_k106 {n : Nat} {e : pm_E} (h : pm_t106 n = some e) : pm_chk yX11_orderOf cX11_orderOf (some .int) 11 n e = true := by
  rcases Nat.lt_or_ge n 99 with hn | hn
  · have q := pm_chkM_get pm_k106_0 h (Nat.zero_le _) (by rw [Nat.zero_add]; exact hn)
    exact q
  · exact absurd h (by rw [pm_t106_out hn]; exact fun q => by cases q)
set_option maxRecDepth 100000 in
theorem pm_k107_0 : pm_chkM pm_t107 (yX11_count, cX11_count, 2, (some .int), 11, 137) 0 137 = true := by decide +kernel
theorem pm_k107 {n : Nat} {e : pm_E} (h : pm_t107 n = some e) : pm_chk yX11_count cX11_count (some .int) 11 n e = true := by
  rcases Nat.lt_or_ge n 137 with hn | hn
  · have q := pm_chkM_get pm_k107_0 h (Nat.zero_le _) (by rw [Nat.zero_add]; exact hn)
    exact q
  · exact absurd h (by rw [pm_t107_out hn]; exact fun q => by cases q)
set_option maxRecDepth 100000 in
theorem pm_k108_0 : pm_chkM pm_t108 (yX11_refuse, cX11_refuse, 2, (some .int), 11, 26) 0 26 = true := by decide +kernel
theorem pm_k108 {n : Nat} {e : pm_E} (h : pm_t108 n = some e) : pm_chk yX11_refuse cX11_refuse (some .int) 11 n e = true := by
  rcases Nat.lt_or_ge n 26 with hn | hn
  · have q := pm_chkM_get pm_k108_0 h (Nat.zero_le _) (by rw [Nat.zero_add]; exact hn)
    exact q
  · exact absurd h (by rw [pm_t108_out hn]; exact fun q => by cases q)
set_option maxRecDepth 100000 in
theorem pm_k109_0 : pm_chkM pm_t109 (yX11_refusalsOf, cX11_refusalsOf, 2, (some .int), 11, 23) 0 23 = true := by decide +kernel
theorem pm_k109 {n : Nat} {e : pm_E} (h : pm_t109 n = some e) : pm_chk yX11_refusalsOf cX11_refusalsOf (some .int) 11 n e = true := by
  rcases Nat.lt_or_ge n 23 with hn | hn
  · have q := pm_chkM_get pm_k109_0 h (Nat.zero_le _) (by rw [Nat.zero_add]; exact hn)
    exact q
  · exact absurd h (by rw [pm_t109_out hn]; exact fun q => by cases q)
set_option maxRecDepth 100000 in
theorem pm_k110_0 : pm_chkM pm_t110 (yX11_readLines, cX11_readLines, 2, none, 11, 30) 0 30 = true := by decide +kernel
theorem pm_k110 {n : Nat} {e : pm_E} (h : pm_t110 n = some e) : pm_chk yX11_readLines cX11_readLines none 11 n e = true := by
  rcases Nat.lt_or_ge n 30 with hn | hn
  · have q := pm_chkM_get pm_k110_0 h (Nat.zero_le _) (by rw [Nat.zero_add]; exact hn)
    exact q
  · exact absurd h (by rw [pm_t110_out hn]; exact fun q => by cases q)
set_option maxRecDepth 100000 in
theorem pm_k111_0 : pm_chkM pm_t111 (yX11_pickAndColour, cX11_pickAndColour, 6, (some .int), 11, 77) 0 77 = true := by decide +kernel
theorem pm_k111 {n : Nat} {e : pm_E} (h : pm_t111 n = some e) : pm_chk yX11_pickAndColour cX11_pickAndColour (some .int) 11 n e = true := by
  rcases Nat.lt_or_ge n 77 with hn | hn
  · have q := pm_chkM_get pm_k111_0 h (Nat.zero_le _) (by rw [Nat.zero_add]; exact hn)
    exact q
  · exact absurd h (by rw [pm_t111_out hn]; exact fun q => by cases q)
set_option maxRecDepth 100000 in
theorem pm_k112_0 : pm_chkM pm_t112 (yX11_canBeFault, cX11_canBeFault, 4, (some .boolean), 11, 84) 0 84 = true := by decide +kernel
theorem pm_k112 {n : Nat} {e : pm_E} (h : pm_t112 n = some e) : pm_chk yX11_canBeFault cX11_canBeFault (some .boolean) 11 n e = true := by
  rcases Nat.lt_or_ge n 84 with hn | hn
  · have q := pm_chkM_get pm_k112_0 h (Nat.zero_le _) (by rw [Nat.zero_add]; exact hn)
    exact q
  · exact absurd h (by rw [pm_t112_out hn]; exact fun q => by cases q)
set_option maxRecDepth 100000 in
theorem pm_k113_0 : pm_chkM pm_t113 (yX11_isPlace, cX11_isPlace, 2, (some .boolean), 11, 15) 0 15 = true := by decide +kernel
theorem pm_k113 {n : Nat} {e : pm_E} (h : pm_t113 n = some e) : pm_chk yX11_isPlace cX11_isPlace (some .boolean) 11 n e = true := by
  rcases Nat.lt_or_ge n 15 with hn | hn
  · have q := pm_chkM_get pm_k113_0 h (Nat.zero_le _) (by rw [Nat.zero_add]; exact hn)
    exact q
  · exact absurd h (by rw [pm_t113_out hn]; exact fun q => by cases q)
set_option maxRecDepth 100000 in
theorem pm_k114_0 : pm_chkM pm_t114 (yX11_isColour, cX11_isColour, 1, (some .boolean), 11, 6) 0 6 = true := by decide +kernel
theorem pm_k114 {n : Nat} {e : pm_E} (h : pm_t114 n = some e) : pm_chk yX11_isColour cX11_isColour (some .boolean) 11 n e = true := by
  rcases Nat.lt_or_ge n 6 with hn | hn
  · have q := pm_chkM_get pm_k114_0 h (Nat.zero_le _) (by rw [Nat.zero_add]; exact hn)
    exact q
  · exact absurd h (by rw [pm_t114_out hn]; exact fun q => by cases q)
set_option maxRecDepth 100000 in
theorem pm_k115_0 : pm_chkM pm_t115 (yX11_around, cX11_around, 2, (some .int), 11, 21) 0 21 = true := by decide +kernel
theorem pm_k115 {n : Nat} {e : pm_E} (h : pm_t115 n = some e) : pm_chk yX11_around cX11_around (some .int) 11 n e = true := by
  rcases Nat.lt_or_ge n 21 with hn | hn
  · have q := pm_chkM_get pm_k115_0 h (Nat.zero_le _) (by rw [Nat.zero_add]; exact hn)
    exact q
  · exact absurd h (by rw [pm_t115_out hn]; exact fun q => by cases q)
set_option maxRecDepth 100000 in
theorem pm_k116_0 : pm_chkM pm_t116 (yX12_init, cX12_init, 1, none, 12, 293) 0 293 = true := by decide +kernel
theorem pm_k116 {n : Nat} {e : pm_E} (h : pm_t116 n = some e) : pm_chk yX12_init cX12_init none 12 n e = true := by
  rcases Nat.lt_or_ge n 293 with hn | hn
  · have q := pm_chkM_get pm_k116_0 h (Nat.zero_le _) (by rw [Nat.zero_add]; exact hn)
    exact q
  · exact absurd h (by rw [pm_t116_out hn]; exact fun q => by cases q)
set_option maxRecDepth 100000 in
theorem pm_k117_0 : pm_chkM pm_t117 (yX12_in, cX12_in, 3, (some .boolean), 12, 16) 0 16 = true := by decide +kernel
theorem pm_k117 {n : Nat} {e : pm_E} (h : pm_t117 n = some e) : pm_chk yX12_in cX12_in (some .boolean) 12 n e = true := by
  rcases Nat.lt_or_ge n 16 with hn | hn
  · have q := pm_chkM_get pm_k117_0 h (Nat.zero_le _) (by rw [Nat.zero_add]; exact hn)
    exact q
  · exact absurd h (by rw [pm_t117_out hn]; exact fun q => by cases q)
set_option maxRecDepth 100000 in
theorem pm_k118_0 : pm_chkM pm_t118 (yX12_refuse, cX12_refuse, 2, (some .int), 12, 13) 0 13 = true := by decide +kernel
theorem pm_k118 {n : Nat} {e : pm_E} (h : pm_t118 n = some e) : pm_chk yX12_refuse cX12_refuse (some .int) 12 n e = true := by
  rcases Nat.lt_or_ge n 13 with hn | hn
  · have q := pm_chkM_get pm_k118_0 h (Nat.zero_le _) (by rw [Nat.zero_add]; exact hn)
    exact q
  · exact absurd h (by rw [pm_t118_out hn]; exact fun q => by cases q)
set_option maxRecDepth 100000 in
theorem pm_k119_0 : pm_chkM pm_t119 (yX12_colour, cX12_colour, 3, (some .int), 12, 12) 0 12 = true := by decide +kernel
theorem pm_k119 {n : Nat} {e : pm_E} (h : pm_t119 n = some e) : pm_chk yX12_colour cX12_colour (some .int) 12 n e = true := by
  rcases Nat.lt_or_ge n 12 with hn | hn
  · have q := pm_chkM_get pm_k119_0 h (Nat.zero_le _) (by rw [Nat.zero_add]; exact hn)
    exact q
  · exact absurd h (by rw [pm_t119_out hn]; exact fun q => by cases q)
set_option maxRecDepth 100000 in
theorem pm_k120_0 : pm_chkM pm_t120 (yX12_isSquare, cX12_isSquare, 3, (some .boolean), 12, 34) 0 34 = true := by decide +kernel
theorem pm_k120 {n : Nat} {e : pm_E} (h : pm_t120 n = some e) : pm_chk yX12_isSquare cX12_isSquare (some .boolean) 12 n e = true := by
  rcases Nat.lt_or_ge n 34 with hn | hn
  · have q := pm_chkM_get pm_k120_0 h (Nat.zero_le _) (by rw [Nat.zero_add]; exact hn)
    exact q
  · exact absurd h (by rw [pm_t120_out hn]; exact fun q => by cases q)
set_option maxRecDepth 100000 in
theorem pm_k121_0 : pm_chkM pm_t121 (yX12_paper, cX12_paper, 4, (some .int), 12, 70) 0 70 = true := by decide +kernel
theorem pm_k121 {n : Nat} {e : pm_E} (h : pm_t121 n = some e) : pm_chk yX12_paper cX12_paper (some .int) 12 n e = true := by
  rcases Nat.lt_or_ge n 70 with hn | hn
  · have q := pm_chkM_get pm_k121_0 h (Nat.zero_le _) (by rw [Nat.zero_add]; exact hn)
    exact q
  · exact absurd h (by rw [pm_t121_out hn]; exact fun q => by cases q)
set_option maxRecDepth 100000 in
theorem pm_k122_0 : pm_chkM pm_t122 (yX12_square, cX12_square, 5, (some .int), 12, 47) 0 47 = true := by decide +kernel
theorem pm_k122 {n : Nat} {e : pm_E} (h : pm_t122 n = some e) : pm_chk yX12_square cX12_square (some .int) 12 n e = true := by
  rcases Nat.lt_or_ge n 47 with hn | hn
  · have q := pm_chkM_get pm_k122_0 h (Nat.zero_le _) (by rw [Nat.zero_add]; exact hn)
    exact q
  · exact absurd h (by rw [pm_t122_out hn]; exact fun q => by cases q)
set_option maxRecDepth 100000 in
theorem pm_k123_0 : pm_chkM pm_t123 (yX12_fill, cX12_fill, 6, (some .int), 12, 89) 0 89 = true := by decide +kernel
theorem pm_k123 {n : Nat} {e : pm_E} (h : pm_t123 n = some e) : pm_chk yX12_fill cX12_fill (some .int) 12 n e = true := by
  rcases Nat.lt_or_ge n 89 with hn | hn
  · have q := pm_chkM_get pm_k123_0 h (Nat.zero_le _) (by rw [Nat.zero_add]; exact hn)
    exact q
  · exact absurd h (by rw [pm_t123_out hn]; exact fun q => by cases q)
set_option maxRecDepth 100000 in
theorem pm_k124_0 : pm_chkM pm_t124 (yX12_at, cX12_at, 3, (some .int), 12, 24) 0 24 = true := by decide +kernel
theorem pm_k124 {n : Nat} {e : pm_E} (h : pm_t124 n = some e) : pm_chk yX12_at cX12_at (some .int) 12 n e = true := by
  rcases Nat.lt_or_ge n 24 with hn | hn
  · have q := pm_chkM_get pm_k124_0 h (Nat.zero_le _) (by rw [Nat.zero_add]; exact hn)
    exact q
  · exact absurd h (by rw [pm_t124_out hn]; exact fun q => by cases q)
set_option maxRecDepth 100000 in
theorem pm_k125_0 : pm_chkM pm_t125 (yX12_isSame, cX12_isSame, 6, (some .boolean), 12, 83) 0 83 = true := by decide +kernel
theorem pm_k125 {n : Nat} {e : pm_E} (h : pm_t125 n = some e) : pm_chk yX12_isSame cX12_isSame (some .boolean) 12 n e = true := by
  rcases Nat.lt_or_ge n 83 with hn | hn
  · have q := pm_chkM_get pm_k125_0 h (Nat.zero_le _) (by rw [Nat.zero_add]; exact hn)
    exact q
  · exact absurd h (by rw [pm_t125_out hn]; exact fun q => by cases q)
set_option maxRecDepth 100000 in
theorem pm_k126_0 : pm_chkM pm_t126 (yX12_span, cX12_span, 4, (some .int), 12, 73) 0 73 = true := by decide +kernel
theorem pm_k126 {n : Nat} {e : pm_E} (h : pm_t126 n = some e) : pm_chk yX12_span cX12_span (some .int) 12 n e = true := by
  rcases Nat.lt_or_ge n 73 with hn | hn
  · have q := pm_chkM_get pm_k126_0 h (Nat.zero_le _) (by rw [Nat.zero_add]; exact hn)
    exact q
  · exact absurd h (by rw [pm_t126_out hn]; exact fun q => by cases q)
set_option maxRecDepth 100000 in
theorem pm_k127_0 : pm_chkM pm_t127 (yX12_isMirror, cX12_isMirror, 10, (some .boolean), 12, 145) 0 145 = true := by decide +kernel
theorem pm_k127 {n : Nat} {e : pm_E} (h : pm_t127 n = some e) : pm_chk yX12_isMirror cX12_isMirror (some .boolean) 12 n e = true := by
  rcases Nat.lt_or_ge n 145 with hn | hn
  · have q := pm_chkM_get pm_k127_0 h (Nat.zero_le _) (by rw [Nat.zero_add]; exact hn)
    exact q
  · exact absurd h (by rw [pm_t127_out hn]; exact fun q => by cases q)
set_option maxRecDepth 100000 in
theorem pm_k128_0 : pm_chkM pm_t128 (yX12_mirror, cX12_mirror, 3, (some .int), 12, 66) 0 66 = true := by decide +kernel
theorem pm_k128 {n : Nat} {e : pm_E} (h : pm_t128 n = some e) : pm_chk yX12_mirror cX12_mirror (some .int) 12 n e = true := by
  rcases Nat.lt_or_ge n 66 with hn | hn
  · have q := pm_chkM_get pm_k128_0 h (Nat.zero_le _) (by rw [Nat.zero_add]; exact hn)
    exact q
  · exact absurd h (by rw [pm_t128_out hn]; exact fun q => by cases q)
set_option maxRecDepth 100000 in
theorem pm_k129_0 : pm_chkM pm_t129 (yX12_areAlike, cX12_areAlike, 5, (some .boolean), 12, 49) 0 49 = true := by decide +kernel
theorem pm_k129 {n : Nat} {e : pm_E} (h : pm_t129 n = some e) : pm_chk yX12_areAlike cX12_areAlike (some .boolean) 12 n e = true := by
  rcases Nat.lt_or_ge n 49 with hn | hn
  · have q := pm_chkM_get pm_k129_0 h (Nat.zero_le _) (by rw [Nat.zero_add]; exact hn)
    exact q
  · exact absurd h (by rw [pm_t129_out hn]; exact fun q => by cases q)
set_option maxRecDepth 100000 in
theorem pm_k130_0 : pm_chkM pm_t130 (yX12_findCords, cX12_findCords, 3, none, 12, 118) 0 118 = true := by decide +kernel
theorem pm_k130 {n : Nat} {e : pm_E} (h : pm_t130 n = some e) : pm_chk yX12_findCords cX12_findCords none 12 n e = true := by
  rcases Nat.lt_or_ge n 118 with hn | hn
  · have q := pm_chkM_get pm_k130_0 h (Nat.zero_le _) (by rw [Nat.zero_add]; exact hn)
    exact q
  · exact absurd h (by rw [pm_t130_out hn]; exact fun q => by cases q)
set_option maxRecDepth 100000 in
theorem pm_k131_0 : pm_chkM pm_t131 (yX12_cords, cX12_cords, 1, (some .int), 12, 9) 0 9 = true := by decide +kernel
theorem pm_k131 {n : Nat} {e : pm_E} (h : pm_t131 n = some e) : pm_chk yX12_cords cX12_cords (some .int) 12 n e = true := by
  rcases Nat.lt_or_ge n 9 with hn | hn
  · have q := pm_chkM_get pm_k131_0 h (Nat.zero_le _) (by rw [Nat.zero_add]; exact hn)
    exact q
  · exact absurd h (by rw [pm_t131_out hn]; exact fun q => by cases q)
set_option maxRecDepth 100000 in
theorem pm_k132_0 : pm_chkM pm_t132 (yX12_cord, cX12_cord, 2, (some .int), 12, 31) 0 31 = true := by decide +kernel
theorem pm_k132 {n : Nat} {e : pm_E} (h : pm_t132 n = some e) : pm_chk yX12_cord cX12_cord (some .int) 12 n e = true := by
  rcases Nat.lt_or_ge n 31 with hn | hn
  · have q := pm_chkM_get pm_k132_0 h (Nat.zero_le _) (by rw [Nat.zero_add]; exact hn)
    exact q
  · exact absurd h (by rw [pm_t132_out hn]; exact fun q => by cases q)
