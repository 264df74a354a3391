set_option maxRecDepth 100000 in
theorem pm_k51_0 : pm_lw (pm_F pm_t51 yX8_repeatsBy cX8_repeatsBy (some .boolean) 8) (List.range' 0 45) cX8_repeatsBy.data.toList = true := by decide +kernel
theorem pm_k51 {n : Nat} {e : pm_E} (h : pm_t51 n = some e) : pm_chk yX8_repeatsBy cX8_repeatsBy (some .boolean) 8 n e = true := by
  rcases Nat.lt_or_ge n 45 with hn | hn
  · exact pm_kl pm_k51_0 hn h
  · exact absurd h (by rw [pm_t51_out hn]; exact fun q => by cases q)
set_option maxRecDepth 100000 in
theorem pm_k52_0 : pm_lw (pm_F pm_t52 yX8_mirrorsAt cX8_mirrorsAt (some .boolean) 8) (List.range' 0 54) cX8_mirrorsAt.data.toList = true := by decide +kernel
theorem pm_k52 {n : Nat} {e : pm_E} (h : pm_t52 n = some e) : pm_chk yX8_mirrorsAt cX8_mirrorsAt (some .boolean) 8 n e = true := by
  rcases Nat.lt_or_ge n 54 with hn | hn
  · exact pm_kl pm_k52_0 hn h
  · exact absurd h (by rw [pm_t52_out hn]; exact fun q => by cases q)
set_option maxRecDepth 100000 in
theorem pm_k53_0 : pm_lw (pm_F pm_t53 yX9_init cX9_init none 9) (List.range' 0 63) cX9_init.data.toList = true := by decide +kernel
theorem pm_k53 {n : Nat} {e : pm_E} (h : pm_t53 n = some e) : pm_chk yX9_init cX9_init none 9 n e = true := by
  rcases Nat.lt_or_ge n 63 with hn | hn
  · exact pm_kl pm_k53_0 hn h
  · exact absurd h (by rw [pm_t53_out hn]; exact fun q => by cases q)
set_option maxRecDepth 100000 in
theorem pm_k54_0 : pm_lw (pm_F pm_t54 yX9_takeOrder cX9_takeOrder (some .int) 9) (List.range' 0 52) cX9_takeOrder.data.toList = true := by decide +kernel
theorem pm_k54 {n : Nat} {e : pm_E} (h : pm_t54 n = some e) : pm_chk yX9_takeOrder cX9_takeOrder (some .int) 9 n e = true := by
  rcases Nat.lt_or_ge n 52 with hn | hn
  · exact pm_kl pm_k54_0 hn h
  · exact absurd h (by rw [pm_t54_out hn]; exact fun q => by cases q)
set_option maxRecDepth 100000 in
theorem pm_k55_0 : pm_lw (pm_F pm_t55 yX9_isOpen cX9_isOpen (some .boolean) 9) (List.range' 0 15) cX9_isOpen.data.toList = true := by decide +kernel
theorem pm_k55 {n : Nat} {e : pm_E} (h : pm_t55 n = some e) : pm_chk yX9_isOpen cX9_isOpen (some .boolean) 9 n e = true := by
  rcases Nat.lt_or_ge n 15 with hn | hn
  · exact pm_kl pm_k55_0 hn h
  · exact absurd h (by rw [pm_t55_out hn]; exact fun q => by cases q)
set_option maxRecDepth 100000 in
theorem pm_k56_0 : pm_lw (pm_F pm_t56 yX9_openOrders cX9_openOrders (some .int) 9) (List.range' 0 31) cX9_openOrders.data.toList = true := by decide +kernel
theorem pm_k56 {n : Nat} {e : pm_E} (h : pm_t56 n = some e) : pm_chk yX9_openOrders cX9_openOrders (some .int) 9 n e = true := by
  rcases Nat.lt_or_ge n 31 with hn | hn
  · exact pm_kl pm_k56_0 hn h
  · exact absurd h (by rw [pm_t56_out hn]; exact fun q => by cases q)
set_option maxRecDepth 100000 in
theorem pm_k57_0 : pm_lw (pm_F pm_t57 yX9_daysFor cX9_daysFor (some .int) 9) (List.range' 0 40) cX9_daysFor.data.toList = true := by decide +kernel
theorem pm_k57 {n : Nat} {e : pm_E} (h : pm_t57 n = some e) : pm_chk yX9_daysFor cX9_daysFor (some .int) 9 n e = true := by
  rcases Nat.lt_or_ge n 40 with hn | hn
  · exact pm_kl pm_k57_0 hn h
  · exact absurd h (by rw [pm_t57_out hn]; exact fun q => by cases q)
set_option maxRecDepth 100000 in
theorem pm_k58_0 : pm_lw (pm_F pm_t58 yX9_lateOf cX9_lateOf (some .int) 9) (List.range' 0 13) cX9_lateOf.data.toList = true := by decide +kernel
theorem pm_k58 {n : Nat} {e : pm_E} (h : pm_t58 n = some e) : pm_chk yX9_lateOf cX9_lateOf (some .int) 9 n e = true := by
  rcases Nat.lt_or_ge n 13 with hn | hn
  · exact pm_kl pm_k58_0 hn h
  · exact absurd h (by rw [pm_t58_out hn]; exact fun q => by cases q)
set_option maxRecDepth 100000 in
theorem pm_k59_0 : pm_lw (pm_F pm_t59 yX9_weaveOrder cX9_weaveOrder (some .int) 9) (List.range' 0 48) cX9_weaveOrder.data.toList = true := by decide +kernel
theorem pm_k59 {n : Nat} {e : pm_E} (h : pm_t59 n = some e) : pm_chk yX9_weaveOrder cX9_weaveOrder (some .int) 9 n e = true := by
  rcases Nat.lt_or_ge n 48 with hn | hn
  · exact pm_kl pm_k59_0 hn h
  · exact absurd h (by rw [pm_t59_out hn]; exact fun q => by cases q)
set_option maxRecDepth 100000 in
theorem pm_k60_0 : pm_lw (pm_F pm_t60 yX9_paidBy cX9_paidBy (some .int) 9) (List.range' 0 48) cX9_paidBy.data.toList = true := by decide +kernel
theorem pm_k60 {n : Nat} {e : pm_E} (h : pm_t60 n = some e) : pm_chk yX9_paidBy cX9_paidBy (some .int) 9 n e = true := by
  rcases Nat.lt_or_ge n 48 with hn | hn
  · exact pm_kl pm_k60_0 hn h
  · exact absurd h (by rw [pm_t60_out hn]; exact fun q => by cases q)
set_option maxRecDepth 100000 in
theorem pm_k61_0 : pm_lw (pm_F pm_t61 yX10_init cX10_init none 10) (List.range' 0 25) cX10_init.data.toList = true := by decide +kernel
theorem pm_k61 {n : Nat} {e : pm_E} (h : pm_t61 n = some e) : pm_chk yX10_init cX10_init none 10 n e = true := by
  rcases Nat.lt_or_ge n 25 with hn | hn
  · exact pm_kl pm_k61_0 hn h
  · exact absurd h (by rw [pm_t61_out hn]; exact fun q => by cases q)
set_option maxRecDepth 100000 in
theorem pm_k62_0 : pm_lw (pm_F pm_t62 yX10_has cX10_has (some .boolean) 10) (List.range' 0 28) cX10_has.data.toList = true := by decide +kernel
theorem pm_k62 {n : Nat} {e : pm_E} (h : pm_t62 n = some e) : pm_chk yX10_has cX10_has (some .boolean) 10 n e = true := by
  rcases Nat.lt_or_ge n 28 with hn | hn
  · exact pm_kl pm_k62_0 hn h
  · exact absurd h (by rw [pm_t62_out hn]; exact fun q => by cases q)
set_option maxRecDepth 100000 in
theorem pm_k63_0 : pm_lw (pm_F pm_t63 yX10_colourAt cX10_colourAt (some .int) 10) (List.range' 0 16) cX10_colourAt.data.toList = true := by decide +kernel
theorem pm_k63 {n : Nat} {e : pm_E} (h : pm_t63 n = some e) : pm_chk yX10_colourAt cX10_colourAt (some .int) 10 n e = true := by
  rcases Nat.lt_or_ge n 16 with hn | hn
  · exact pm_kl pm_k63_0 hn h
  · exact absurd h (by rw [pm_t63_out hn]; exact fun q => by cases q)
set_option maxRecDepth 100000 in
theorem pm_k64_0 : pm_lw (pm_F pm_t64 yX10_paint cX10_paint (some .int) 10) (List.range' 0 29) cX10_paint.data.toList = true := by decide +kernel
theorem pm_k64 {n : Nat} {e : pm_E} (h : pm_t64 n = some e) : pm_chk yX10_paint cX10_paint (some .int) 10 n e = true := by
  rcases Nat.lt_or_ge n 29 with hn | hn
  · exact pm_kl pm_k64_0 hn h
  · exact absurd h (by rw [pm_t64_out hn]; exact fun q => by cases q)
set_option maxRecDepth 100000 in
theorem pm_k65_0 : pm_lw (pm_F pm_t65 yX10_lay cX10_lay none 10) (List.range' 0 19) cX10_lay.data.toList = true := by decide +kernel
theorem pm_k65 {n : Nat} {e : pm_E} (h : pm_t65 n = some e) : pm_chk yX10_lay cX10_lay none 10 n e = true := by
  rcases Nat.lt_or_ge n 19 with hn | hn
  · exact pm_kl pm_k65_0 hn h
  · exact absurd h (by rw [pm_t65_out hn]; exact fun q => by cases q)
set_option maxRecDepth 100000 in
theorem pm_k66_0 : pm_lw (pm_F pm_t66 yX10_become cX10_become none 10) (List.range' 0 32) cX10_become.data.toList = true := by decide +kernel
theorem pm_k66 {n : Nat} {e : pm_E} (h : pm_t66 n = some e) : pm_chk yX10_become cX10_become none 10 n e = true := by
  rcases Nat.lt_or_ge n 32 with hn | hn
  · exact pm_kl pm_k66_0 hn h
  · exact absurd h (by rw [pm_t66_out hn]; exact fun q => by cases q)
set_option maxRecDepth 100000 in
theorem pm_k67_0 : pm_lw (pm_F pm_t67 yX10_isAsLargeAs cX10_isAsLargeAs (some .boolean) 10) (List.range' 0 28) cX10_isAsLargeAs.data.toList = true := by decide +kernel
theorem pm_k67 {n : Nat} {e : pm_E} (h : pm_t67 n = some e) : pm_chk yX10_isAsLargeAs cX10_isAsLargeAs (some .boolean) 10 n e = true := by
  rcases Nat.lt_or_ge n 28 with hn | hn
  · exact pm_kl pm_k67_0 hn h
  · exact absurd h (by rw [pm_t67_out hn]; exact fun q => by cases q)
set_option maxRecDepth 100000 in
theorem pm_k68_0 : pm_lw (pm_F pm_t68 yX10_differences cX10_differences (some .int) 10) (List.range' 0 58) cX10_differences.data.toList = true := by decide +kernel
theorem pm_k68 {n : Nat} {e : pm_E} (h : pm_t68 n = some e) : pm_chk yX10_differences cX10_differences (some .int) 10 n e = true := by
  rcases Nat.lt_or_ge n 58 with hn | hn
  · exact pm_kl pm_k68_0 hn h
  · exact absurd h (by rw [pm_t68_out hn]; exact fun q => by cases q)
set_option maxRecDepth 100000 in
theorem pm_k69_0 : pm_lw (pm_F pm_t69 yX10_coloursOfPick cX10_coloursOfPick (some .int) 10) (List.range' 0 31) cX10_coloursOfPick.data.toList = true := by decide +kernel
theorem pm_k69 {n : Nat} {e : pm_E} (h : pm_t69 n = some e) : pm_chk yX10_coloursOfPick cX10_coloursOfPick (some .int) 10 n e = true := by
  rcases Nat.lt_or_ge n 31 with hn | hn
  · exact pm_kl pm_k69_0 hn h
  · exact absurd h (by rw [pm_t69_out hn]; exact fun q => by cases q)
set_option maxRecDepth 100000 in
theorem pm_k70_0 : pm_lw (pm_F pm_t70 yX11_init cX11_init none 11) (List.range' 0 179) cX11_init.data.toList = true := by decide +kernel
theorem pm_k70 {n : Nat} {e : pm_E} (h : pm_t70 n = some e) : pm_chk yX11_init cX11_init none 11 n e = true := by
  rcases Nat.lt_or_ge n 179 with hn | hn
  · exact pm_kl pm_k70_0 hn h
  · exact absurd h (by rw [pm_t70_out hn]; exact fun q => by cases q)
set_option maxRecDepth 100000 in
theorem pm_k71_0 : pm_lw (pm_F pm_t71 yX11_paper cX11_paper (some .int) 11) (List.range' 0 47) cX11_paper.data.toList = true := by decide +kernel
theorem pm_k71 {n : Nat} {e : pm_E} (h : pm_t71 n = some e) : pm_chk yX11_paper cX11_paper (some .int) 11 n e = true := by
  rcases Nat.lt_or_ge n 47 with hn | hn
  · exact pm_kl pm_k71_0 hn h
  · exact absurd h (by rw [pm_t71_out hn]; exact fun q => by cases q)
set_option maxRecDepth 100000 in
theorem pm_k72_0 : pm_lw (pm_F pm_t72 yX11_square cX11_square (some .int) 11) (List.range' 0 36) cX11_square.data.toList = true := by decide +kernel
theorem pm_k72 {n : Nat} {e : pm_E} (h : pm_t72 n = some e) : pm_chk yX11_square cX11_square (some .int) 11 n e = true := by
  rcases Nat.lt_or_ge n 36 with hn | hn
  · exact pm_kl pm_k72_0 hn h
  · exact absurd h (by rw [pm_t72_out hn]; exact fun q => by cases q)
set_option maxRecDepth 100000 in
theorem pm_k73_0 : pm_lw (pm_F pm_t73 yX11_fill cX11_fill (some .int) 11) (List.range' 0 97) cX11_fill.data.toList = true := by decide +kernel
theorem pm_k73 {n : Nat} {e : pm_E} (h : pm_t73 n = some e) : pm_chk yX11_fill cX11_fill (some .int) 11 n e = true := by
  rcases Nat.lt_or_ge n 97 with hn | hn
  · exact pm_kl pm_k73_0 hn h
  · exact absurd h (by rw [pm_t73_out hn]; exact fun q => by cases q)
set_option maxRecDepth 100000 in
theorem pm_k74_0 : pm_lw (pm_F pm_t74 yX11_at cX11_at (some .int) 11) (List.range' 0 28) cX11_at.data.toList = true := by decide +kernel
theorem pm_k74 {n : Nat} {e : pm_E} (h : pm_t74 n = some e) : pm_chk yX11_at cX11_at (some .int) 11 n e = true := by
  rcases Nat.lt_or_ge n 28 with hn | hn
  · exact pm_kl pm_k74_0 hn h
  · exact absurd h (by rw [pm_t74_out hn]; exact fun q => by cases q)
set_option maxRecDepth 100000 in
theorem pm_k75_0 : pm_lw (pm_F pm_t75 yX11_span cX11_span (some .int) 11) (List.range' 0 28) cX11_span.data.toList = true := by decide +kernel
theorem pm_k75 {n : Nat} {e : pm_E} (h : pm_t75 n = some e) : pm_chk yX11_span cX11_span (some .int) 11 n e = true := by
  rcases Nat.lt_or_ge n 28 with hn | hn
  · exact pm_kl pm_k75_0 hn h
  · exact absurd h (by rw [pm_t75_out hn]; exact fun q => by cases q)
set_option maxRecDepth 100000 in
theorem pm_k76_0 : pm_lw (pm_F pm_t76 yX11_mirror cX11_mirror (some .int) 11) (List.range' 0 28) cX11_mirror.data.toList = true := by decide +kernel
theorem pm_k76 {n : Nat} {e : pm_E} (h : pm_t76 n = some e) : pm_chk yX11_mirror cX11_mirror (some .int) 11 n e = true := by
  rcases Nat.lt_or_ge n 28 with hn | hn
  · exact pm_kl pm_k76_0 hn h
  · exact absurd h (by rw [pm_t76_out hn]; exact fun q => by cases q)
set_option maxRecDepth 100000 in
theorem pm_k77_0 : pm_lw (pm_F pm_t77 yX11_cords cX11_cords (some .int) 11) (List.range' 0 19) cX11_cords.data.toList = true := by decide +kernel
theorem pm_k77 {n : Nat} {e : pm_E} (h : pm_t77 n = some e) : pm_chk yX11_cords cX11_cords (some .int) 11 n e = true := by
  rcases Nat.lt_or_ge n 19 with hn | hn
  · exact pm_kl pm_k77_0 hn h
  · exact absurd h (by rw [pm_t77_out hn]; exact fun q => by cases q)
set_option maxRecDepth 100000 in
theorem pm_k78_0 : pm_lw (pm_F pm_t78 yX11_cord cX11_cord (some .int) 11) (List.range' 0 41) cX11_cord.data.toList = true := by decide +kernel
theorem pm_k78 {n : Nat} {e : pm_E} (h : pm_t78 n = some e) : pm_chk yX11_cord cX11_cord (some .int) 11 n e = true := by
  rcases Nat.lt_or_ge n 41 with hn | hn
  · exact pm_kl pm_k78_0 hn h
  · exact absurd h (by rw [pm_t78_out hn]; exact fun q => by cases q)
set_option maxRecDepth 100000 in
theorem pm_k79_0 : pm_lw (pm_F pm_t79 yX11_pull cX11_pull (some .int) 11) (List.range' 0 52) cX11_pull.data.toList = true := by decide +kernel
theorem pm_k79 {n : Nat} {e : pm_E} (h : pm_t79 n = some e) : pm_chk yX11_pull cX11_pull (some .int) 11 n e = true := by
  rcases Nat.lt_or_ge n 52 with hn | hn
  · exact pm_kl pm_k79_0 hn h
  · exact absurd h (by rw [pm_t79_out hn]; exact fun q => by cases q)
set_option maxRecDepth 100000 in
theorem pm_k80_0 : pm_lw (pm_F pm_t80 yX11_pulls cX11_pulls (some .int) 11) (List.range' 0 37) cX11_pulls.data.toList = true := by decide +kernel
theorem pm_k80 {n : Nat} {e : pm_E} (h : pm_t80 n = some e) : pm_chk yX11_pulls cX11_pulls (some .int) 11 n e = true := by
  rcases Nat.lt_or_ge n 37 with hn | hn
  · exact pm_kl pm_k80_0 hn h
  · exact absurd h (by rw [pm_t80_out hn]; exact fun q => by cases q)
set_option maxRecDepth 100000 in
theorem pm_k81_0 : pm_lw (pm_F pm_t81 yX11_pullOf cX11_pullOf (some .int) 11) (List.range' 0 54) cX11_pullOf.data.toList = true := by decide +kernel
theorem pm_k81 {n : Nat} {e : pm_E} (h : pm_t81 n = some e) : pm_chk yX11_pullOf cX11_pullOf (some .int) 11 n e = true := by
  rcases Nat.lt_or_ge n 54 with hn | hn
  · exact pm_kl pm_k81_0 hn h
  · exact absurd h (by rw [pm_t81_out hn]; exact fun q => by cases q)
set_option maxRecDepth 100000 in
theorem pm_k82_0 : pm_lw (pm_F pm_t82 yX11_limit cX11_limit (some .int) 11) (List.range' 0 37) cX11_limit.data.toList = true := by decide +kernel
theorem pm_k82 {n : Nat} {e : pm_E} (h : pm_t82 n = some e) : pm_chk yX11_limit cX11_limit (some .int) 11 n e = true := by
  rcases Nat.lt_or_ge n 37 with hn | hn
  · exact pm_kl pm_k82_0 hn h
  · exact absurd h (by rw [pm_t82_out hn]; exact fun q => by cases q)
set_option maxRecDepth 100000 in
theorem pm_k83_0 : pm_lw (pm_F pm_t83 yX11_floats cX11_floats (some .int) 11) (List.range' 0 73) cX11_floats.data.toList = true := by decide +kernel
theorem pm_k83 {n : Nat} {e : pm_E} (h : pm_t83 n = some e) : pm_chk yX11_floats cX11_floats (some .int) 11 n e = true := by
  rcases Nat.lt_or_ge n 73 with hn | hn
  · exact pm_kl pm_k83_0 hn h
  · exact absurd h (by rw [pm_t83_out hn]; exact fun q => by cases q)
set_option maxRecDepth 100000 in
theorem pm_k84_0 : pm_lw (pm_F pm_t84 yX11_mend cX11_mend (some .int) 11) (List.range' 0 44) cX11_mend.data.toList = true := by decide +kernel
theorem pm_k84 {n : Nat} {e : pm_E} (h : pm_t84 n = some e) : pm_chk yX11_mend cX11_mend (some .int) 11 n e = true := by
  rcases Nat.lt_or_ge n 44 with hn | hn
  · exact pm_kl pm_k84_0 hn h
  · exact absurd h (by rw [pm_t84_out hn]; exact fun q => by cases q)
set_option maxRecDepth 100000 in
theorem pm_k85_0 : pm_lw (pm_F pm_t85 yX11_fault cX11_fault (some .int) 11) (List.range' 0 45) cX11_fault.data.toList = true := by decide +kernel
theorem pm_k85 {n : Nat} {e : pm_E} (h : pm_t85 n = some e) : pm_chk yX11_fault cX11_fault (some .int) 11 n e = true := by
  rcases Nat.lt_or_ge n 45 with hn | hn
  · exact pm_kl pm_k85_0 hn h
  · exact absurd h (by rw [pm_t85_out hn]; exact fun q => by cases q)
set_option maxRecDepth 100000 in
theorem pm_k86_0 : pm_lw (pm_F pm_t86 yX11_clear cX11_clear (some .int) 11) (List.range' 0 17) cX11_clear.data.toList = true := by decide +kernel
theorem pm_k86 {n : Nat} {e : pm_E} (h : pm_t86 n = some e) : pm_chk yX11_clear cX11_clear (some .int) 11 n e = true := by
  rcases Nat.lt_or_ge n 17 with hn | hn
  · exact pm_kl pm_k86_0 hn h
  · exact absurd h (by rw [pm_t86_out hn]; exact fun q => by cases q)
set_option maxRecDepth 100000 in
theorem pm_k87_0 : pm_lw (pm_F pm_t87 yX11_weave cX11_weave (some .int) 11) (List.range' 0 146) cX11_weave.data.toList = true := by decide +kernel
theorem pm_k87 {n : Nat} {e : pm_E} (h : pm_t87 n = some e) : pm_chk yX11_weave cX11_weave (some .int) 11 n e = true := by
  rcases Nat.lt_or_ge n 146 with hn | hn
  · exact pm_kl pm_k87_0 hn h
  · exact absurd h (by rw [pm_t87_out hn]; exact fun q => by cases q)
set_option maxRecDepth 100000 in
theorem pm_k88_0 : pm_lw (pm_F pm_t88 yX11_cloth cX11_cloth (some .int) 11) (List.range' 0 42) cX11_cloth.data.toList = true := by decide +kernel
theorem pm_k88 {n : Nat} {e : pm_E} (h : pm_t88 n = some e) : pm_chk yX11_cloth cX11_cloth (some .int) 11 n e = true := by
  rcases Nat.lt_or_ge n 42 with hn | hn
  · exact pm_kl pm_k88_0 hn h
  · exact absurd h (by rw [pm_t88_out hn]; exact fun q => by cases q)
set_option maxRecDepth 100000 in
theorem pm_k89_0 : pm_lw (pm_F pm_t89 yX11_see cX11_see (some .int) 11) (List.range' 0 50) cX11_see.data.toList = true := by decide +kernel
theorem pm_k89 {n : Nat} {e : pm_E} (h : pm_t89 n = some e) : pm_chk yX11_see cX11_see (some .int) 11 n e = true := by
  rcases Nat.lt_or_ge n 50 with hn | hn
  · exact pm_kl pm_k89_0 hn h
  · exact absurd h (by rw [pm_t89_out hn]; exact fun q => by cases q)
set_option maxRecDepth 100000 in
theorem pm_k90_0 : pm_lw (pm_F pm_t90 yX11_explained cX11_explained (some .int) 11) (List.range' 0 124) cX11_explained.data.toList = true := by decide +kernel
theorem pm_k90 {n : Nat} {e : pm_E} (h : pm_t90 n = some e) : pm_chk yX11_explained cX11_explained (some .int) 11 n e = true := by
  rcases Nat.lt_or_ge n 124 with hn | hn
  · exact pm_kl pm_k90_0 hn h
  · exact absurd h (by rw [pm_t90_out hn]; exact fun q => by cases q)
set_option maxRecDepth 100000 in
theorem pm_k91_0 : pm_lw (pm_F pm_t91 yX11_set cX11_set (some .int) 11) (List.range' 0 112) cX11_set.data.toList = true := by decide +kernel
theorem pm_k91 {n : Nat} {e : pm_E} (h : pm_t91 n = some e) : pm_chk yX11_set cX11_set (some .int) 11 n e = true := by
  rcases Nat.lt_or_ge n 112 with hn | hn
  · exact pm_kl pm_k91_0 hn h
  · exact absurd h (by rw [pm_t91_out hn]; exact fun q => by cases q)
set_option maxRecDepth 100000 in
theorem pm_k92_0 : pm_lw (pm_F pm_t92 yX11_order cX11_order (some .int) 11) (List.range' 0 83) cX11_order.data.toList = true := by decide +kernel
theorem pm_k92 {n : Nat} {e : pm_E} (h : pm_t92 n = some e) : pm_chk yX11_order cX11_order (some .int) 11 n e = true := by
  rcases Nat.lt_or_ge n 83 with hn | hn
  · exact pm_kl pm_k92_0 hn h
  · exact absurd h (by rw [pm_t92_out hn]; exact fun q => by cases q)
set_option maxRecDepth 100000 in
theorem pm_k93_0 : pm_lw (pm_F pm_t93 yX11_best cX11_best (some .int) 11) (List.range' 0 38) cX11_best.data.toList = true := by decide +kernel
theorem pm_k93 {n : Nat} {e : pm_E} (h : pm_t93 n = some e) : pm_chk yX11_best cX11_best (some .int) 11 n e = true := by
  rcases Nat.lt_or_ge n 38 with hn | hn
  · exact pm_kl pm_k93_0 hn h
  · exact absurd h (by rw [pm_t93_out hn]; exact fun q => by cases q)
set_option maxRecDepth 100000 in
theorem pm_k94_0 : pm_lw (pm_F pm_t94 yX11_bestAt cX11_bestAt (some .int) 11) (List.range' 0 59) cX11_bestAt.data.toList = true := by decide +kernel
theorem pm_k94 {n : Nat} {e : pm_E} (h : pm_t94 n = some e) : pm_chk yX11_bestAt cX11_bestAt (some .int) 11 n e = true := by
  rcases Nat.lt_or_ge n 59 with hn | hn
  · exact pm_kl pm_k94_0 hn h
  · exact absurd h (by rw [pm_t94_out hn]; exact fun q => by cases q)
set_option maxRecDepth 100000 in
theorem pm_k95_0 : pm_lw (pm_F pm_t95 yX11_work cX11_work (some .int) 11) (List.range' 0 91) cX11_work.data.toList = true := by decide +kernel
theorem pm_k95 {n : Nat} {e : pm_E} (h : pm_t95 n = some e) : pm_chk yX11_work cX11_work (some .int) 11 n e = true := by
  rcases Nat.lt_or_ge n 91 with hn | hn
  · exact pm_kl pm_k95_0 hn h
  · exact absurd h (by rw [pm_t95_out hn]; exact fun q => by cases q)
set_option maxRecDepth 100000 in
theorem pm_k96_0 : pm_lw (pm_F pm_t96 yX11_days cX11_days (some .int) 11) (List.range' 0 63) cX11_days.data.toList = true := by decide +kernel
theorem pm_k96 {n : Nat} {e : pm_E} (h : pm_t96 n = some e) : pm_chk yX11_days cX11_days (some .int) 11 n e = true := by
  rcases Nat.lt_or_ge n 63 with hn | hn
  · exact pm_kl pm_k96_0 hn h
  · exact absurd h (by rw [pm_t96_out hn]; exact fun q => by cases q)
set_option maxRecDepth 100000 in
theorem pm_k97_0 : pm_lw (pm_F pm_t97 yX11_law cX11_law (some .int) 11) (List.range' 0 84) cX11_law.data.toList = true := by decide +kernel
theorem pm_k97 {n : Nat} {e : pm_E} (h : pm_t97 n = some e) : pm_chk yX11_law cX11_law (some .int) 11 n e = true := by
  rcases Nat.lt_or_ge n 84 with hn | hn
  · exact pm_kl pm_k97_0 hn h
  · exact absurd h (by rw [pm_t97_out hn]; exact fun q => by cases q)

