set_option maxRecDepth 100000 in
theorem pm_k0_0 : pm_lw (pm_F pm_t0 yX0_init cX0_init none 0) (List.range' 0 29) cX0_init.data.toList = true := by decide +kernel
theorem pm_k0 {n : Nat} {e : pm_E} (h : pm_t0 n = some e) : pm_chk yX0_init cX0_init none 0 n e = true := by
  rcases Nat.lt_or_ge n 29 with hn | hn
  · exact pm_kl pm_k0_0 hn h
  · exact absurd h (by rw [pm_t0_out hn]; exact fun q => by cases q)
set_option maxRecDepth 100000 in
theorem pm_k1_0 : pm_lw (pm_F pm_t1 yX0_bringHome cX0_bringHome none 0) (List.range' 0 27) cX0_bringHome.data.toList = true := by decide +kernel
theorem pm_k1 {n : Nat} {e : pm_E} (h : pm_t1 n = some e) : pm_chk yX0_bringHome cX0_bringHome none 0 n e = true := by
  rcases Nat.lt_or_ge n 27 with hn | hn
  · exact pm_kl pm_k1_0 hn h
  · exact absurd h (by rw [pm_t1_out hn]; exact fun q => by cases q)
set_option maxRecDepth 100000 in
theorem pm_k2_0 : pm_lw (pm_F pm_t2 yX0_owed cX0_owed (some .int) 0) (List.range' 0 21) cX0_owed.data.toList = true := by decide +kernel
theorem pm_k2 {n : Nat} {e : pm_E} (h : pm_t2 n = some e) : pm_chk yX0_owed cX0_owed (some .int) 0 n e = true := by
  rcases Nat.lt_or_ge n 21 with hn | hn
  · exact pm_kl pm_k2_0 hn h
  · exact absurd h (by rw [pm_t2_out hn]; exact fun q => by cases q)
set_option maxRecDepth 100000 in
theorem pm_k3_0 : pm_lw (pm_F pm_t3 yX1_init cX1_init none 1) (List.range' 0 26) cX1_init.data.toList = true := by decide +kernel
theorem pm_k3 {n : Nat} {e : pm_E} (h : pm_t3 n = some e) : pm_chk yX1_init cX1_init none 1 n e = true := by
  rcases Nat.lt_or_ge n 26 with hn | hn
  · exact pm_kl pm_k3_0 hn h
  · exact absurd h (by rw [pm_t3_out hn]; exact fun q => by cases q)
set_option maxRecDepth 100000 in
theorem pm_k4_0 : pm_lw (pm_F pm_t4 yX1_holdWarp cX1_holdWarp none 1) (List.range' 0 19) cX1_holdWarp.data.toList = true := by decide +kernel
theorem pm_k4 {n : Nat} {e : pm_E} (h : pm_t4 n = some e) : pm_chk yX1_holdWarp cX1_holdWarp none 1 n e = true := by
  rcases Nat.lt_or_ge n 19 with hn | hn
  · exact pm_kl pm_k4_0 hn h
  · exact absurd h (by rw [pm_t4_out hn]; exact fun q => by cases q)
set_option maxRecDepth 100000 in
theorem pm_k5_0 : pm_lw (pm_F pm_t5 yX1_holdCards cX1_holdCards none 1) (List.range' 0 14) cX1_holdCards.data.toList = true := by decide +kernel
theorem pm_k5 {n : Nat} {e : pm_E} (h : pm_t5 n = some e) : pm_chk yX1_holdCards cX1_holdCards none 1 n e = true := by
  rcases Nat.lt_or_ge n 14 with hn | hn
  · exact pm_kl pm_k5_0 hn h
  · exact absurd h (by rw [pm_t5_out hn]; exact fun q => by cases q)
set_option maxRecDepth 100000 in
theorem pm_k6_0 : pm_lw (pm_F pm_t6 yX1_wrongFor cX1_wrongFor (some .int) 1) (List.range' 0 25) cX1_wrongFor.data.toList = true := by decide +kernel
theorem pm_k6 {n : Nat} {e : pm_E} (h : pm_t6 n = some e) : pm_chk yX1_wrongFor cX1_wrongFor (some .int) 1 n e = true := by
  rcases Nat.lt_or_ge n 25 with hn | hn
  · exact pm_kl pm_k6_0 hn h
  · exact absurd h (by rw [pm_t6_out hn]; exact fun q => by cases q)
set_option maxRecDepth 100000 in
theorem pm_k7_0 : pm_lw (pm_F pm_t7 yX1_cardsUnlike cX1_cardsUnlike (some .int) 1) (List.range' 0 31) cX1_cardsUnlike.data.toList = true := by decide +kernel
theorem pm_k7 {n : Nat} {e : pm_E} (h : pm_t7 n = some e) : pm_chk yX1_cardsUnlike cX1_cardsUnlike (some .int) 1 n e = true := by
  rcases Nat.lt_or_ge n 31 with hn | hn
  · exact pm_kl pm_k7_0 hn h
  · exact absurd h (by rw [pm_t7_out hn]; exact fun q => by cases q)
set_option maxRecDepth 100000 in
theorem pm_k8_0 : pm_lw (pm_F pm_t8 yX2_init cX2_init none 2) (List.range' 0 52) cX2_init.data.toList = true := by decide +kernel
theorem pm_k8 {n : Nat} {e : pm_E} (h : pm_t8 n = some e) : pm_chk yX2_init cX2_init none 2 n e = true := by
  rcases Nat.lt_or_ge n 52 with hn | hn
  · exact pm_kl pm_k8_0 hn h
  · exact absurd h (by rw [pm_t8_out hn]; exact fun q => by cases q)
set_option maxRecDepth 100000 in
theorem pm_k9_0 : pm_lw (pm_F pm_t9 yX2_find cX2_find none 2) (List.range' 0 93) cX2_find.data.toList = true := by decide +kernel
theorem pm_k9 {n : Nat} {e : pm_E} (h : pm_t9 n = some e) : pm_chk yX2_find cX2_find none 2 n e = true := by
  rcases Nat.lt_or_ge n 93 with hn | hn
  · exact pm_kl pm_k9_0 hn h
  · exact absurd h (by rw [pm_t9_out hn]; exact fun q => by cases q)
set_option maxRecDepth 100000 in
theorem pm_k10_0 : pm_lw (pm_F pm_t10 yX2_goOn cX2_goOn none 2) (List.range' 0 144) cX2_goOn.data.toList = true := by decide +kernel
theorem pm_k10 {n : Nat} {e : pm_E} (h : pm_t10 n = some e) : pm_chk yX2_goOn cX2_goOn none 2 n e = true := by
  rcases Nat.lt_or_ge n 144 with hn | hn
  · exact pm_kl pm_k10_0 hn h
  · exact absurd h (by rw [pm_t10_out hn]; exact fun q => by cases q)
set_option maxRecDepth 100000 in
theorem pm_k11_0 : pm_lw (pm_F pm_t11 yX3_init cX3_init none 3) (List.range' 0 37) cX3_init.data.toList = true := by decide +kernel
theorem pm_k11 {n : Nat} {e : pm_E} (h : pm_t11 n = some e) : pm_chk yX3_init cX3_init none 3 n e = true := by
  rcases Nat.lt_or_ge n 37 with hn | hn
  · exact pm_kl pm_k11_0 hn h
  · exact absurd h (by rw [pm_t11_out hn]; exact fun q => by cases q)
set_option maxRecDepth 100000 in
theorem pm_k12_0 : pm_lw (pm_F pm_t12 yX3_readFrom cX3_readFrom none 3) (List.range' 0 82) cX3_readFrom.data.toList = true := by decide +kernel
theorem pm_k12 {n : Nat} {e : pm_E} (h : pm_t12 n = some e) : pm_chk yX3_readFrom cX3_readFrom none 3 n e = true := by
  rcases Nat.lt_or_ge n 82 with hn | hn
  · exact pm_kl pm_k12_0 hn h
  · exact absurd h (by rw [pm_t12_out hn]; exact fun q => by cases q)
set_option maxRecDepth 100000 in
theorem pm_k13_0 : pm_lw (pm_F pm_t13 yX3_thatShow cX3_thatShow (some .int) 3) (List.range' 0 49) cX3_thatShow.data.toList = true := by decide +kernel
theorem pm_k13 {n : Nat} {e : pm_E} (h : pm_t13 n = some e) : pm_chk yX3_thatShow cX3_thatShow (some .int) 3 n e = true := by
  rcases Nat.lt_or_ge n 49 with hn | hn
  · exact pm_kl pm_k13_0 hn h
  · exact absurd h (by rw [pm_t13_out hn]; exact fun q => by cases q)
set_option maxRecDepth 100000 in
theorem pm_k14_0 : pm_lw (pm_F pm_t14 yX3_cordLike cX3_cordLike (some .int) 3) (List.range' 0 42) cX3_cordLike.data.toList = true := by decide +kernel
theorem pm_k14 {n : Nat} {e : pm_E} (h : pm_t14 n = some e) : pm_chk yX3_cordLike cX3_cordLike (some .int) 3 n e = true := by
  rcases Nat.lt_or_ge n 42 with hn | hn
  · exact pm_kl pm_k14_0 hn h
  · exact absurd h (by rw [pm_t14_out hn]; exact fun q => by cases q)
set_option maxRecDepth 100000 in
theorem pm_k15_0 : pm_lw (pm_F pm_t15 yX4_init cX4_init none 4) (List.range' 0 45) cX4_init.data.toList = true := by decide +kernel
theorem pm_k15 {n : Nat} {e : pm_E} (h : pm_t15 n = some e) : pm_chk yX4_init cX4_init none 4 n e = true := by
  rcases Nat.lt_or_ge n 45 with hn | hn
  · exact pm_kl pm_k15_0 hn h
  · exact absurd h (by rw [pm_t15_out hn]; exact fun q => by cases q)
set_option maxRecDepth 100000 in
theorem pm_k16_0 : pm_lw (pm_F pm_t16 yX4_find cX4_find none 4) (List.range' 0 71) cX4_find.data.toList = true := by decide +kernel
theorem pm_k16 {n : Nat} {e : pm_E} (h : pm_t16 n = some e) : pm_chk yX4_find cX4_find none 4 n e = true := by
  rcases Nat.lt_or_ge n 71 with hn | hn
  · exact pm_kl pm_k16_0 hn h
  · exact absurd h (by rw [pm_t16_out hn]; exact fun q => by cases q)
set_option maxRecDepth 100000 in
theorem pm_k17_0 : pm_lw (pm_F pm_t17 yX4_found cX4_found none 4) (List.range' 0 16) cX4_found.data.toList = true := by decide +kernel
theorem pm_k17 {n : Nat} {e : pm_E} (h : pm_t17 n = some e) : pm_chk yX4_found cX4_found none 4 n e = true := by
  rcases Nat.lt_or_ge n 16 with hn | hn
  · exact pm_kl pm_k17_0 hn h
  · exact absurd h (by rw [pm_t17_out hn]; exact fun q => by cases q)
set_option maxRecDepth 100000 in
theorem pm_k18_0 : pm_lw (pm_F pm_t18 yX4_findBroken cX4_findBroken (some .boolean) 4) (List.range' 0 54) cX4_findBroken.data.toList = true := by decide +kernel
theorem pm_k18 {n : Nat} {e : pm_E} (h : pm_t18 n = some e) : pm_chk yX4_findBroken cX4_findBroken (some .boolean) 4 n e = true := by
  rcases Nat.lt_or_ge n 54 with hn | hn
  · exact pm_kl pm_k18_0 hn h
  · exact absurd h (by rw [pm_t18_out hn]; exact fun q => by cases q)
set_option maxRecDepth 100000 in
theorem pm_k19_0 : pm_lw (pm_F pm_t19 yX4_findSkipped cX4_findSkipped (some .boolean) 4) (List.range' 0 55) cX4_findSkipped.data.toList = true := by decide +kernel
theorem pm_k19 {n : Nat} {e : pm_E} (h : pm_t19 n = some e) : pm_chk yX4_findSkipped cX4_findSkipped (some .boolean) 4 n e = true := by
  rcases Nat.lt_or_ge n 55 with hn | hn
  · exact pm_kl pm_k19_0 hn h
  · exact absurd h (by rw [pm_t19_out hn]; exact fun q => by cases q)
set_option maxRecDepth 100000 in
theorem pm_k20_0 : pm_lw (pm_F pm_t20 yX4_findCrossed cX4_findCrossed (some .boolean) 4) (List.range' 0 70) cX4_findCrossed.data.toList = true := by decide +kernel
theorem pm_k20 {n : Nat} {e : pm_E} (h : pm_t20 n = some e) : pm_chk yX4_findCrossed cX4_findCrossed (some .boolean) 4 n e = true := by
  rcases Nat.lt_or_ge n 70 with hn | hn
  · exact pm_kl pm_k20_0 hn h
  · exact absurd h (by rw [pm_t20_out hn]; exact fun q => by cases q)
set_option maxRecDepth 100000 in
theorem pm_k21_0 : pm_lw (pm_F pm_t21 yX4_fitsByColumns cX4_fitsByColumns (some .boolean) 4) (List.range' 0 67) cX4_fitsByColumns.data.toList = true := by decide +kernel
theorem pm_k21 {n : Nat} {e : pm_E} (h : pm_t21 n = some e) : pm_chk yX4_fitsByColumns cX4_fitsByColumns (some .boolean) 4 n e = true := by
  rcases Nat.lt_or_ge n 67 with hn | hn
  · exact pm_kl pm_k21_0 hn h
  · exact absurd h (by rw [pm_t21_out hn]; exact fun q => by cases q)
set_option maxRecDepth 100000 in
theorem pm_k22_0 : pm_lw (pm_F pm_t22 yX4_fitsByRows cX4_fitsByRows (some .boolean) 4) (List.range' 0 64) cX4_fitsByRows.data.toList = true := by decide +kernel
theorem pm_k22 {n : Nat} {e : pm_E} (h : pm_t22 n = some e) : pm_chk yX4_fitsByRows cX4_fitsByRows (some .boolean) 4 n e = true := by
  rcases Nat.lt_or_ge n 64 with hn | hn
  · exact pm_kl pm_k22_0 hn h
  · exact absurd h (by rw [pm_t22_out hn]; exact fun q => by cases q)
set_option maxRecDepth 100000 in
theorem pm_k23_0 : pm_lw (pm_F pm_t23 yX5_init cX5_init none 5) (List.range' 0 26) cX5_init.data.toList = true := by decide +kernel
theorem pm_k23 {n : Nat} {e : pm_E} (h : pm_t23 n = some e) : pm_chk yX5_init cX5_init none 5 n e = true := by
  rcases Nat.lt_or_ge n 26 with hn | hn
  · exact pm_kl pm_k23_0 hn h
  · exact absurd h (by rw [pm_t23_out hn]; exact fun q => by cases q)
set_option maxRecDepth 100000 in
theorem pm_k24_0 : pm_lw (pm_F pm_t24 yX5_tell cX5_tell none 5) (List.range' 0 22) cX5_tell.data.toList = true := by decide +kernel
theorem pm_k24 {n : Nat} {e : pm_E} (h : pm_t24 n = some e) : pm_chk yX5_tell cX5_tell none 5 n e = true := by
  rcases Nat.lt_or_ge n 22 with hn | hn
  · exact pm_kl pm_k24_0 hn h
  · exact absurd h (by rw [pm_t24_out hn]; exact fun q => by cases q)
set_option maxRecDepth 100000 in
theorem pm_k25_0 : pm_lw (pm_F pm_t25 yX5_forget cX5_forget none 5) (List.range' 0 21) cX5_forget.data.toList = true := by decide +kernel
theorem pm_k25 {n : Nat} {e : pm_E} (h : pm_t25 n = some e) : pm_chk yX5_forget cX5_forget none 5 n e = true := by
  rcases Nat.lt_or_ge n 21 with hn | hn
  · exact pm_kl pm_k25_0 hn h
  · exact absurd h (by rw [pm_t25_out hn]; exact fun q => by cases q)
set_option maxRecDepth 100000 in
theorem pm_k26_0 : pm_lw (pm_F pm_t26 yX5_howMany cX5_howMany (some .int) 5) (List.range' 0 29) cX5_howMany.data.toList = true := by decide +kernel
theorem pm_k26 {n : Nat} {e : pm_E} (h : pm_t26 n = some e) : pm_chk yX5_howMany cX5_howMany (some .int) 5 n e = true := by
  rcases Nat.lt_or_ge n 29 with hn | hn
  · exact pm_kl pm_k26_0 hn h
  · exact absurd h (by rw [pm_t26_out hn]; exact fun q => by cases q)
set_option maxRecDepth 100000 in
theorem pm_k27_0 : pm_lw (pm_F pm_t27 yX5_columnShown cX5_columnShown (some .int) 5) (List.range' 0 112) cX5_columnShown.data.toList = true := by decide +kernel
theorem pm_k27 {n : Nat} {e : pm_E} (h : pm_t27 n = some e) : pm_chk yX5_columnShown cX5_columnShown (some .int) 5 n e = true := by
  rcases Nat.lt_or_ge n 112 with hn | hn
  · exact pm_kl pm_k27_0 hn h
  · exact absurd h (by rw [pm_t27_out hn]; exact fun q => by cases q)
set_option maxRecDepth 100000 in
theorem pm_k28_0 : pm_lw (pm_F pm_t28 yX5_pickShown cX5_pickShown (some .int) 5) (List.range' 0 44) cX5_pickShown.data.toList = true := by decide +kernel
theorem pm_k28 {n : Nat} {e : pm_E} (h : pm_t28 n = some e) : pm_chk yX5_pickShown cX5_pickShown (some .int) 5 n e = true := by
  rcases Nat.lt_or_ge n 44 with hn | hn
  · exact pm_kl pm_k28_0 hn h
  · exact absurd h (by rw [pm_t28_out hn]; exact fun q => by cases q)
set_option maxRecDepth 100000 in
theorem pm_k29_0 : pm_lw (pm_F pm_t29 yX6_init cX6_init none 6) (List.range' 0 44) cX6_init.data.toList = true := by decide +kernel
theorem pm_k29 {n : Nat} {e : pm_E} (h : pm_t29 n = some e) : pm_chk yX6_init cX6_init none 6 n e = true := by
  rcases Nat.lt_or_ge n 44 with hn | hn
  · exact pm_kl pm_k29_0 hn h
  · exact absurd h (by rw [pm_t29_out hn]; exact fun q => by cases q)
set_option maxRecDepth 100000 in
theorem pm_k30_0 : pm_lw (pm_F pm_t30 yX6_readFrom cX6_readFrom none 6) (List.range' 0 110) cX6_readFrom.data.toList = true := by decide +kernel
theorem pm_k30 {n : Nat} {e : pm_E} (h : pm_t30 n = some e) : pm_chk yX6_readFrom cX6_readFrom none 6 n e = true := by
  rcases Nat.lt_or_ge n 110 with hn | hn
  · exact pm_kl pm_k30_0 hn h
  · exact absurd h (by rw [pm_t30_out hn]; exact fun q => by cases q)
set_option maxRecDepth 100000 in
theorem pm_k31_0 : pm_lw (pm_F pm_t31 yX6_longerThan cX6_longerThan (some .int) 6) (List.range' 0 33) cX6_longerThan.data.toList = true := by decide +kernel
theorem pm_k31 {n : Nat} {e : pm_E} (h : pm_t31 n = some e) : pm_chk yX6_longerThan cX6_longerThan (some .int) 6 n e = true := by
  rcases Nat.lt_or_ge n 33 with hn | hn
  · exact pm_kl pm_k31_0 hn h
  · exact absurd h (by rw [pm_t31_out hn]; exact fun q => by cases q)
set_option maxRecDepth 100000 in
theorem pm_k32_0 : pm_lw (pm_F pm_t32 yX6_longest cX6_longest (some .int) 6) (List.range' 0 31) cX6_longest.data.toList = true := by decide +kernel
theorem pm_k32 {n : Nat} {e : pm_E} (h : pm_t32 n = some e) : pm_chk yX6_longest cX6_longest (some .int) 6 n e = true := by
  rcases Nat.lt_or_ge n 31 with hn | hn
  · exact pm_kl pm_k32_0 hn h
  · exact absurd h (by rw [pm_t32_out hn]; exact fun q => by cases q)
set_option maxRecDepth 100000 in
theorem pm_k33_0 : pm_lw (pm_F pm_t33 yX6_leastMending cX6_leastMending (some .int) 6) (List.range' 0 71) cX6_leastMending.data.toList = true := by decide +kernel
theorem pm_k33 {n : Nat} {e : pm_E} (h : pm_t33 n = some e) : pm_chk yX6_leastMending cX6_leastMending (some .int) 6 n e = true := by
  rcases Nat.lt_or_ge n 71 with hn | hn
  · exact pm_kl pm_k33_0 hn h
  · exact absurd h (by rw [pm_t33_out hn]; exact fun q => by cases q)
set_option maxRecDepth 100000 in
theorem pm_k34_0 : pm_lw (pm_F pm_t34 yX6_closedCost cX6_closedCost (some .int) 6) (List.range' 0 19) cX6_closedCost.data.toList = true := by decide +kernel
theorem pm_k34 {n : Nat} {e : pm_E} (h : pm_t34 n = some e) : pm_chk yX6_closedCost cX6_closedCost (some .int) 6 n e = true := by
  rcases Nat.lt_or_ge n 19 with hn | hn
  · exact pm_kl pm_k34_0 hn h
  · exact absurd h (by rw [pm_t34_out hn]; exact fun q => by cases q)
set_option maxRecDepth 100000 in
theorem pm_k35_0 : pm_lw (pm_F pm_t35 yX6_openCost cX6_openCost (some .int) 6) (List.range' 0 63) cX6_openCost.data.toList = true := by decide +kernel
theorem pm_k35 {n : Nat} {e : pm_E} (h : pm_t35 n = some e) : pm_chk yX6_openCost cX6_openCost (some .int) 6 n e = true := by
  rcases Nat.lt_or_ge n 63 with hn | hn
  · exact pm_kl pm_k35_0 hn h
  · exact absurd h (by rw [pm_t35_out hn]; exact fun q => by cases q)
set_option maxRecDepth 100000 in
theorem pm_k36_0 : pm_lw (pm_F pm_t36 yX6_cheapestAhead cX6_cheapestAhead (some .int) 6) (List.range' 0 40) cX6_cheapestAhead.data.toList = true := by decide +kernel
theorem pm_k36 {n : Nat} {e : pm_E} (h : pm_t36 n = some e) : pm_chk yX6_cheapestAhead cX6_cheapestAhead (some .int) 6 n e = true := by
  rcases Nat.lt_or_ge n 40 with hn | hn
  · exact pm_kl pm_k36_0 hn h
  · exact absurd h (by rw [pm_t36_out hn]; exact fun q => by cases q)
set_option maxRecDepth 100000 in
theorem pm_k37_0 : pm_lw (pm_F pm_t37 yX6_costOf cX6_costOf (some .int) 6) (List.range' 0 7) cX6_costOf.data.toList = true := by decide +kernel
theorem pm_k37 {n : Nat} {e : pm_E} (h : pm_t37 n = some e) : pm_chk yX6_costOf cX6_costOf (some .int) 6 n e = true := by
  rcases Nat.lt_or_ge n 7 with hn | hn
  · exact pm_kl pm_k37_0 hn h
  · exact absurd h (by rw [pm_t37_out hn]; exact fun q => by cases q)
set_option maxRecDepth 100000 in
theorem pm_k38_0 : pm_lw (pm_F pm_t38 yX6_addRun cX6_addRun none 6) (List.range' 0 31) cX6_addRun.data.toList = true := by decide +kernel
theorem pm_k38 {n : Nat} {e : pm_E} (h : pm_t38 n = some e) : pm_chk yX6_addRun cX6_addRun none 6 n e = true := by
  rcases Nat.lt_or_ge n 31 with hn | hn
  · exact pm_kl pm_k38_0 hn h
  · exact absurd h (by rw [pm_t38_out hn]; exact fun q => by cases q)
set_option maxRecDepth 100000 in
theorem pm_k39_0 : pm_lw (pm_F pm_t39 yX6_firstStart cX6_firstStart (some .int) 6) (List.range' 0 31) cX6_firstStart.data.toList = true := by decide +kernel
theorem pm_k39 {n : Nat} {e : pm_E} (h : pm_t39 n = some e) : pm_chk yX6_firstStart cX6_firstStart (some .int) 6 n e = true := by
  rcases Nat.lt_or_ge n 31 with hn | hn
  · exact pm_kl pm_k39_0 hn h
  · exact absurd h (by rw [pm_t39_out hn]; exact fun q => by cases q)
set_option maxRecDepth 100000 in
theorem pm_k40_0 : pm_lw (pm_F pm_t40 yX6_isStart cX6_isStart (some .boolean) 6) (List.range' 0 30) cX6_isStart.data.toList = true := by decide +kernel
theorem pm_k40 {n : Nat} {e : pm_E} (h : pm_t40 n = some e) : pm_chk yX6_isStart cX6_isStart (some .boolean) 6 n e = true := by
  rcases Nat.lt_or_ge n 30 with hn | hn
  · exact pm_kl pm_k40_0 hn h
  · exact absurd h (by rw [pm_t40_out hn]; exact fun q => by cases q)
set_option maxRecDepth 100000 in
theorem pm_k41_0 : pm_lw (pm_F pm_t41 yX7_init cX7_init none 7) (List.range' 0 34) cX7_init.data.toList = true := by decide +kernel
theorem pm_k41 {n : Nat} {e : pm_E} (h : pm_t41 n = some e) : pm_chk yX7_init cX7_init none 7 n e = true := by
  rcases Nat.lt_or_ge n 34 with hn | hn
  · exact pm_kl pm_k41_0 hn h
  · exact absurd h (by rw [pm_t41_out hn]; exact fun q => by cases q)
set_option maxRecDepth 100000 in
theorem pm_k42_0 : pm_lw (pm_F pm_t42 yX7_give cX7_give (some .int) 7) (List.range' 0 43) cX7_give.data.toList = true := by decide +kernel
theorem pm_k42 {n : Nat} {e : pm_E} (h : pm_t42 n = some e) : pm_chk yX7_give cX7_give (some .int) 7 n e = true := by
  rcases Nat.lt_or_ge n 43 with hn | hn
  · exact pm_kl pm_k42_0 hn h
  · exact absurd h (by rw [pm_t42_out hn]; exact fun q => by cases q)
set_option maxRecDepth 100000 in
theorem pm_k43_0 : pm_lw (pm_F pm_t43 yX7_wasteOn cX7_wasteOn (some .int) 7) (List.range' 0 21) cX7_wasteOn.data.toList = true := by decide +kernel
theorem pm_k43 {n : Nat} {e : pm_E} (h : pm_t43 n = some e) : pm_chk yX7_wasteOn cX7_wasteOn (some .int) 7 n e = true := by
  rcases Nat.lt_or_ge n 21 with hn | hn
  · exact pm_kl pm_k43_0 hn h
  · exact absurd h (by rw [pm_t43_out hn]; exact fun q => by cases q)
set_option maxRecDepth 100000 in
theorem pm_k44_0 : pm_lw (pm_F pm_t44 yX7_priceOn cX7_priceOn (some .int) 7) (List.range' 0 21) cX7_priceOn.data.toList = true := by decide +kernel
theorem pm_k44 {n : Nat} {e : pm_E} (h : pm_t44 n = some e) : pm_chk yX7_priceOn cX7_priceOn (some .int) 7 n e = true := by
  rcases Nat.lt_or_ge n 21 with hn | hn
  · exact pm_kl pm_k44_0 hn h
  · exact absurd h (by rw [pm_t44_out hn]; exact fun q => by cases q)
set_option maxRecDepth 100000 in
theorem pm_k45_0 : pm_lw (pm_F pm_t45 yX7_inForceOn cX7_inForceOn (some .int) 7) (List.range' 0 52) cX7_inForceOn.data.toList = true := by decide +kernel
theorem pm_k45 {n : Nat} {e : pm_E} (h : pm_t45 n = some e) : pm_chk yX7_inForceOn cX7_inForceOn (some .int) 7 n e = true := by
  rcases Nat.lt_or_ge n 52 with hn | hn
  · exact pm_kl pm_k45_0 hn h
  · exact absurd h (by rw [pm_t45_out hn]; exact fun q => by cases q)
set_option maxRecDepth 100000 in
theorem pm_k46_0 : pm_lw (pm_F pm_t46 yX8_init cX8_init none 8) (List.range' 0 18) cX8_init.data.toList = true := by decide +kernel
theorem pm_k46 {n : Nat} {e : pm_E} (h : pm_t46 n = some e) : pm_chk yX8_init cX8_init none 8 n e = true := by
  rcases Nat.lt_or_ge n 18 with hn | hn
  · exact pm_kl pm_k46_0 hn h
  · exact absurd h (by rw [pm_t46_out hn]; exact fun q => by cases q)
set_option maxRecDepth 100000 in
theorem pm_k47_0 : pm_lw (pm_F pm_t47 yX8_readColumns cX8_readColumns none 8) (List.range' 0 68) cX8_readColumns.data.toList = true := by decide +kernel
theorem pm_k47 {n : Nat} {e : pm_E} (h : pm_t47 n = some e) : pm_chk yX8_readColumns cX8_readColumns none 8 n e = true := by
  rcases Nat.lt_or_ge n 68 with hn | hn
  · exact pm_kl pm_k47_0 hn h
  · exact absurd h (by rw [pm_t47_out hn]; exact fun q => by cases q)
set_option maxRecDepth 100000 in
theorem pm_k48_0 : pm_lw (pm_F pm_t48 yX8_readRows cX8_readRows none 8) (List.range' 0 26) cX8_readRows.data.toList = true := by decide +kernel
theorem pm_k48 {n : Nat} {e : pm_E} (h : pm_t48 n = some e) : pm_chk yX8_readRows cX8_readRows none 8 n e = true := by
  rcases Nat.lt_or_ge n 26 with hn | hn
  · exact pm_kl pm_k48_0 hn h
  · exact absurd h (by rw [pm_t48_out hn]; exact fun q => by cases q)
set_option maxRecDepth 100000 in
theorem pm_k49_0 : pm_lw (pm_F pm_t49 yX8_leastSpan cX8_leastSpan (some .int) 8) (List.range' 0 40) cX8_leastSpan.data.toList = true := by decide +kernel
theorem pm_k49 {n : Nat} {e : pm_E} (h : pm_t49 n = some e) : pm_chk yX8_leastSpan cX8_leastSpan (some .int) 8 n e = true := by
  rcases Nat.lt_or_ge n 40 with hn | hn
  · exact pm_kl pm_k49_0 hn h
  · exact absurd h (by rw [pm_t49_out hn]; exact fun q => by cases q)
set_option maxRecDepth 100000 in
theorem pm_k50_0 : pm_lw (pm_F pm_t50 yX8_leastMirror cX8_leastMirror (some .int) 8) (List.range' 0 29) cX8_leastMirror.data.toList = true := by decide +kernel
theorem pm_k50 {n : Nat} {e : pm_E} (h : pm_t50 n = some e) : pm_chk yX8_leastMirror cX8_leastMirror (some .int) 8 n e = true := by
  rcases Nat.lt_or_ge n 29 with hn | hn
  · exact pm_kl pm_k50_0 hn h
  · exact absurd h (by rw [pm_t50_out hn]; exact fun q => by cases q)

