set_option maxRecDepth 100000 in
theorem l_loop {L : Nat} {xs : Nat → Int32} (hL : L ≤ 2560) : ∀ (m p : Nat) (w : pm_W), L < p + m → p ≤ L + 5 → pm_J w → pm_V (some (L, xs)) 40 186 18 [.retAddr 0, .ref 0, .ref 59, .int (nI p)] [] w (fun rv _ => rv = some (.int 1)) := by
  intro m
  induction m with
  | zero =>
    intro p w h1 h2 hJ
    have e1 := nI_toInt (n := p) (by omega)
    have e2 := nI_toInt (n := L) (by omega)
    refine v_iload_n rfl rfl ?_
    refine v_saload_n rfl rfl ?_
    refine v_slen rfl ?_
    refine v_iconst (v := 5) rfl (by decide) ?_
    refine v_isub rfl ?_
    refine r_icmp_gt rfl (fun _ => ?_) (fun hx => absurd hx ?_)
    · refine v_iconst (v := 1) rfl (by decide) ?_
      exact v_zret rfl (by decide) rfl
    · show ¬ ¬ (nI L - 5).toInt < (nI p).toInt
      rw [j_sub (by rw [e2, i_5]; omega) (by rw [e2, i_5]; omega), e1, e2, i_5]
      omega
  | succ m ih =>
    intro p w h1 h2 hJ
    have e1 := nI_toInt (n := p) (by omega)
    have e2 := nI_toInt (n := L) (by omega)
    refine v_iload_n rfl rfl ?_
    refine v_saload_n rfl rfl ?_
    refine v_slen rfl ?_
    refine v_iconst (v := 5) rfl (by decide) ?_
    refine v_isub rfl ?_
    refine r_icmp_gt rfl (fun _ => ?_) (fun hx => ?_)
    · refine v_iconst (v := 1) rfl (by decide) ?_
      exact v_zret rfl (by decide) rfl
    · have hp : p + 5 ≤ L := by
        rw [show (Int32.ofNat L - 5 : Int32) = nI L - 5 from rfl, j_sub (by rw [e2, i_5]; omega) (by rw [e2, i_5]; omega), e1, e2, i_5] at hx
        omega
      obtain ⟨fs, h0⟩ := hJ.c0
      have K : ∀ w1, pm_J w1 → pm_V (some (L, xs)) 40 186 1303 [.retAddr 0, .ref 0, .ref 59, .int (nI p)] [] w1 (fun rv _ => rv = some (.int 1)) := by
        intro w1 hJ1
        refine v_iinc (v := nI (p + 5)) rfl rfl (s_i5 (by omega)) ?_
        refine v_goto rfl ?_
        exact ih (p + 5) w1 (by omega) (by omega) hJ1
      refine v_saload_n rfl rfl ?_
      refine v_iload_n rfl rfl ?_
      refine v_sld (n := p) rfl (s_i0 (by omega)) (by omega) ?_
      refine v_bipush (v := 63) rfl (by decide) ?_
      refine u_iand rfl (fun z => ?_)
      by_cases s0 : z.toInt = 0
      · exact v_tabIn (t := 196) rfl (by omega) (by omega) (by rw [s0]; rfl) rfl (l_case0 hp hL hJ h0 K)
      by_cases s1 : z.toInt = 1
      · exact v_tabIn (t := 229) rfl (by omega) (by omega) (by rw [s1]; rfl) rfl (l_case1 hp hL hJ h0 K)
      by_cases s2 : z.toInt = 2
      · exact v_tabIn (t := 272) rfl (by omega) (by omega) (by rw [s2]; rfl) rfl (l_case2 hp hL hJ h0 K)
      by_cases s3 : z.toInt = 3
      · exact v_tabIn (t := 325) rfl (by omega) (by omega) (by rw [s3]; rfl) rfl (l_case3 hp hL hJ h0 K)
      by_cases s4 : z.toInt = 4
      · exact v_tabIn (t := 358) rfl (by omega) (by omega) (by rw [s4]; rfl) rfl (l_case4 hp hL hJ h0 K)
      by_cases s5 : z.toInt = 5
      · exact v_tabIn (t := 381) rfl (by omega) (by omega) (by rw [s5]; rfl) rfl (l_case5 hp hL hJ h0 K)
      by_cases s6 : z.toInt = 6
      · exact v_tabIn (t := 404) rfl (by omega) (by omega) (by rw [s6]; rfl) rfl (l_case6 hp hL hJ h0 K)
      by_cases s7 : z.toInt = 7
      · exact v_tabIn (t := 417) rfl (by omega) (by omega) (by rw [s7]; rfl) rfl (l_case7 hp hL hJ h0 K)
      by_cases s8 : z.toInt = 8
      · exact v_tabIn (t := 440) rfl (by omega) (by omega) (by rw [s8]; rfl) rfl (l_case8 hp hL hJ h0 K)
      by_cases s9 : z.toInt = 9
      · exact v_tabIn (t := 473) rfl (by omega) (by omega) (by rw [s9]; rfl) rfl (l_case9 hp hL hJ h0 K)
      by_cases s10 : z.toInt = 10
      · exact v_tabIn (t := 486) rfl (by omega) (by omega) (by rw [s10]; rfl) rfl (l_case10 hp hL hJ h0 K)
      by_cases s11 : z.toInt = 11
      · exact v_tabIn (t := 519) rfl (by omega) (by omega) (by rw [s11]; rfl) rfl (l_case11 hp hL hJ h0 K)
      by_cases s12 : z.toInt = 12
      · exact v_tabIn (t := 542) rfl (by omega) (by omega) (by rw [s12]; rfl) rfl (l_case12 hp hL hJ h0 K)
      by_cases s13 : z.toInt = 13
      · exact v_tabIn (t := 575) rfl (by omega) (by omega) (by rw [s13]; rfl) rfl (l_case13 hp hL hJ h0 K)
      by_cases s14 : z.toInt = 14
      · exact v_tabIn (t := 598) rfl (by omega) (by omega) (by rw [s14]; rfl) rfl (l_case14 hp hL hJ h0 K)
      by_cases s15 : z.toInt = 15
      · exact v_tabIn (t := 641) rfl (by omega) (by omega) (by rw [s15]; rfl) rfl (l_case15 hp hL hJ h0 K)
      by_cases s16 : z.toInt = 16
      · exact v_tabIn (t := 654) rfl (by omega) (by omega) (by rw [s16]; rfl) rfl (l_case16 hp hL hJ h0 K)
      by_cases s17 : z.toInt = 17
      · exact v_tabIn (t := 667) rfl (by omega) (by omega) (by rw [s17]; rfl) rfl (l_case17 hp hL hJ h0 K)
      by_cases s18 : z.toInt = 18
      · exact v_tabIn (t := 700) rfl (by omega) (by omega) (by rw [s18]; rfl) rfl (l_case18 hp hL hJ h0 K)
      by_cases s19 : z.toInt = 19
      · exact v_tabIn (t := 743) rfl (by omega) (by omega) (by rw [s19]; rfl) rfl (l_case19 hp hL hJ h0 K)
      by_cases s20 : z.toInt = 20
      · exact v_tabIn (t := 766) rfl (by omega) (by omega) (by rw [s20]; rfl) rfl (l_case20 hp hL hJ h0 K)
      by_cases s21 : z.toInt = 21
      · exact v_tabIn (t := 799) rfl (by omega) (by omega) (by rw [s21]; rfl) rfl (l_case21 hp hL hJ h0 K)
      by_cases s22 : z.toInt = 22
      · exact v_tabIn (t := 842) rfl (by omega) (by omega) (by rw [s22]; rfl) rfl (l_case22 hp hL hJ h0 K)
      by_cases s23 : z.toInt = 23
      · exact v_tabIn (t := 855) rfl (by omega) (by omega) (by rw [s23]; rfl) rfl (l_case23 hp hL hJ h0 K)
      by_cases s24 : z.toInt = 24
      · exact v_tabIn (t := 878) rfl (by omega) (by omega) (by rw [s24]; rfl) rfl (l_case24 hp hL hJ h0 K)
      by_cases s25 : z.toInt = 25
      · exact v_tabIn (t := 901) rfl (by omega) (by omega) (by rw [s25]; rfl) rfl (l_case25 hp hL hJ h0 K)
      by_cases s26 : z.toInt = 26
      · exact v_tabIn (t := 924) rfl (by omega) (by omega) (by rw [s26]; rfl) rfl (l_case26 hp hL hJ h0 K)
      by_cases s27 : z.toInt = 27
      · exact v_tabIn (t := 967) rfl (by omega) (by omega) (by rw [s27]; rfl) rfl (l_case27 hp hL hJ h0 K)
      by_cases s28 : z.toInt = 28
      · exact v_tabIn (t := 1036) rfl (by omega) (by omega) (by rw [s28]; rfl) rfl (l_case28 hp hL hJ h0 K)
      by_cases s29 : z.toInt = 29
      · exact v_tabIn (t := 1069) rfl (by omega) (by omega) (by rw [s29]; rfl) rfl (l_case29 hp hL hJ h0 K)
      by_cases s30 : z.toInt = 30
      · exact v_tabIn (t := 1102) rfl (by omega) (by omega) (by rw [s30]; rfl) rfl (l_case30 hp hL hJ h0 K)
      by_cases s31 : z.toInt = 31
      · exact v_tabIn (t := 1125) rfl (by omega) (by omega) (by rw [s31]; rfl) rfl (l_case31 hp hL hJ h0 K)
      by_cases s32 : z.toInt = 32
      · exact v_tabIn (t := 1148) rfl (by omega) (by omega) (by rw [s32]; rfl) rfl (l_case32 hp hL hJ h0 K)
      by_cases s33 : z.toInt = 33
      · exact v_tabIn (t := 1181) rfl (by omega) (by omega) (by rw [s33]; rfl) rfl (l_case33 hp hL hJ h0 K)
      by_cases s34 : z.toInt = 34
      · exact v_tabIn (t := 1214) rfl (by omega) (by omega) (by rw [s34]; rfl) rfl (l_case34 hp hL hJ h0 K)
      by_cases s35 : z.toInt = 35
      · exact v_tabIn (t := 1247) rfl (by omega) (by omega) (by rw [s35]; rfl) rfl (l_case35 hp hL hJ h0 K)
      by_cases s36 : z.toInt = 36
      · exact v_tabIn (t := 1280) rfl (by omega) (by omega) (by rw [s36]; rfl) rfl (l_case36 hp hL hJ h0 K)
      exact v_tabOut (t := 1303) rfl (by omega) rfl (K w hJ)
set_option maxRecDepth 100000 in
theorem pm_law {L : Nat} {xs : Nat → Int32} (hL : L ≤ 2560) : pm_Law (some (L, xs)) := by
  refine pm_law_of ?_
  refine v_iconst (v := 0) rfl (by decide) ?_
  refine v_istore_n rfl (Nat.le_of_ble_eq_true rfl) ?_
  exact l_loop hL (L + 1) 0 pm_w2 (by omega) (by omega) pm_J0

