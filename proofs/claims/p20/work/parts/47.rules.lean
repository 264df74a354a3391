theorem j_add {x y : Int32} (h1 : -2147483648 ≤ x.toInt + y.toInt) (h2 : x.toInt + y.toInt ≤ 2147483647) : (x + y).toInt = x.toInt + y.toInt := by
  rw [Int32.toInt_add, Int.bmod_def]
  split <;> omega
theorem j_sub {x y : Int32} (h1 : -2147483648 ≤ x.toInt - y.toInt) (h2 : x.toInt - y.toInt ≤ 2147483647) : (x - y).toInt = x.toInt - y.toInt := by
  rw [Int32.toInt_sub, Int.bmod_def]
  split <;> omega
theorem j_mul {x y : Int32} {m : Int} (hm : x.toInt * y.toInt = m) (h1 : -2147483648 ≤ m) (h2 : m ≤ 2147483647) : (x * y).toInt = m := by
  rw [Int32.toInt_mul, Int.bmod_def, hm]
  split <;> omega
section PmRR
variable {sc : pm_S} {d mi pc nx a b c f : Nat} {ls st r : List Value} {w : pm_W} {Q : Option Value → pm_W → Prop} {e : pm_E}
theorem r_iadd {x y : Int32} (hc : pm_code mi pc = some (.iadd, nx, a, b, c, f)) (h1 : -2147483648 ≤ x.toInt + y.toInt) (h2 : x.toInt + y.toInt ≤ 2147483647) (k : ∀ z : Int32, z.toInt = x.toInt + y.toInt → pm_V sc d mi nx ls (.int z :: st) w Q) : pm_V sc d mi pc ls (.int y :: .int x :: st) w Q := v_iadd hc (k _ (j_add h1 h2))
theorem r_isub {x y : Int32} (hc : pm_code mi pc = some (.isub, nx, a, b, c, f)) (h1 : -2147483648 ≤ x.toInt - y.toInt) (h2 : x.toInt - y.toInt ≤ 2147483647) (k : ∀ z : Int32, z.toInt = x.toInt - y.toInt → pm_V sc d mi nx ls (.int z :: st) w Q) : pm_V sc d mi pc ls (.int y :: .int x :: st) w Q := v_isub hc (k _ (j_sub h1 h2))
theorem r_imulL {x y : Int32} (n : Int) (hc : pm_code mi pc = some (.imul, nx, a, b, c, f)) (hn : x.toInt = n) (h1 : -2147483648 ≤ n * y.toInt) (h2 : n * y.toInt ≤ 2147483647) (k : ∀ z : Int32, z.toInt = n * y.toInt → pm_V sc d mi nx ls (.int z :: st) w Q) : pm_V sc d mi pc ls (.int y :: .int x :: st) w Q := v_imul hc (k _ (j_mul (by rw [hn]) h1 h2))
theorem r_imulR {x y : Int32} (n : Int) (hc : pm_code mi pc = some (.imul, nx, a, b, c, f)) (hn : y.toInt = n) (h1 : -2147483648 ≤ n * x.toInt) (h2 : n * x.toInt ≤ 2147483647) (k : ∀ z : Int32, z.toInt = n * x.toInt → pm_V sc d mi nx ls (.int z :: st) w Q) : pm_V sc d mi pc ls (.int y :: .int x :: st) w Q := v_imul hc (k _ (j_mul (by rw [hn, Int.mul_comm]) h1 h2))
theorem j_div {x y : Int32} (hx : 0 ≤ x.toInt) (hy : 0 < y.toInt) : (x / y).toInt = x.toInt / y.toInt := by
  have h3 : 0 ≤ x.toInt / y.toInt := Int.ediv_nonneg hx (by omega)
  have h4 : x.toInt / y.toInt ≤ x.toInt := Int.ediv_le_self _ hx
  have := x.toInt_lt
  rw [Int32.toInt_div, Int.tdiv_eq_ediv_of_nonneg hx, Int.bmod_def]
  split <;> omega
theorem j_rem {x y : Int32} (hx : 0 ≤ x.toInt) (hy : 0 < y.toInt) : (x - x / y * y).toInt = x.toInt % y.toInt := by
  have h1 := Int.emod_add_mul_ediv x.toInt y.toInt
  have h2 : 0 ≤ y.toInt * (x.toInt / y.toInt) := Int.mul_nonneg (by omega) (Int.ediv_nonneg hx (by omega))
  have h3 : 0 ≤ x.toInt % y.toInt := Int.emod_nonneg _ (by omega)
  have h4 := x.toInt_lt
  have e : (x / y * y).toInt = y.toInt * (x.toInt / y.toInt) := j_mul (by rw [j_div hx hy, Int.mul_comm]) (by omega) (by omega)
  rw [j_sub (by rw [e]; omega) (by rw [e]; omega), e]
  omega
theorem r_irem {x y : Int32} (hc : pm_code mi pc = some (.irem, nx, a, b, c, f)) (hx : 0 ≤ x.toInt) (hy : 0 < y.toInt) (k : ∀ z : Int32, z.toInt = x.toInt % y.toInt → 0 ≤ z.toInt → z.toInt < y.toInt → z.toInt ≤ x.toInt → pm_V sc d mi nx ls (.int z :: st) w Q) : pm_V sc d mi pc ls (.int y :: .int x :: st) w Q := v_irem hc (fun h => by rw [h, i_0] at hy; omega) (by
  refine k _ (j_rem hx hy) ?_ ?_ ?_
  · rw [j_rem hx hy]; exact Int.emod_nonneg _ (by omega)
  · rw [j_rem hx hy]; exact Int.emod_lt_of_pos _ hy
  · rw [j_rem hx hy]
    have h1 := Int.emod_add_mul_ediv x.toInt y.toInt
    have h2 : 0 ≤ y.toInt * (x.toInt / y.toInt) := Int.mul_nonneg (by omega) (Int.ediv_nonneg hx (by omega))
    omega)
theorem r_idiv {x y : Int32} (hc : pm_code mi pc = some (.idiv, nx, a, b, c, f)) (hx : 0 ≤ x.toInt) (hy : 0 < y.toInt) (k : ∀ z : Int32, z.toInt = x.toInt / y.toInt → 0 ≤ z.toInt → z.toInt ≤ x.toInt → pm_V sc d mi nx ls (.int z :: st) w Q) : pm_V sc d mi pc ls (.int y :: .int x :: st) w Q := v_idiv hc (fun h => by rw [h, i_0] at hy; omega) (by
  have h3 : 0 ≤ x.toInt / y.toInt := Int.ediv_nonneg hx (by omega)
  have h4 : x.toInt / y.toInt ≤ x.toInt := Int.ediv_le_self _ hx
  have e : (x / y).toInt = x.toInt / y.toInt := by
    have := x.toInt_lt
    rw [Int32.toInt_div, Int.tdiv_eq_ediv_of_nonneg hx, Int.bmod_def]
    split <;> omega
  refine k _ e ?_ ?_
  · rw [e]; exact h3
  · rw [e]; exact h4)
theorem r_iinc {i : Nat} {n : Int} {x : Int32} (hc : pm_code mi pc = some (.iinc i n, nx, a, b, c, f)) (hl : ls[i]? = some (.int x)) (hn : (Int32.ofInt n).toInt = n) (h1 : -2147483648 ≤ x.toInt + n) (h2 : x.toInt + n ≤ 2147483647) (k : ∀ z : Int32, z.toInt = x.toInt + n → pm_V sc d mi nx (pm_s1 ls i (.int z)) st w Q) : pm_V sc d mi pc ls st w Q := v_iinc hc hl rfl (k _ (by rw [j_add (by rw [hn]; exact h1) (by rw [hn]; exact h2), hn]))
theorem u_iinc {i : Nat} {n : Int} {x : Int32} (hc : pm_code mi pc = some (.iinc i n, nx, a, b, c, f)) (hl : ls[i]? = some (.int x)) (k : ∀ z : Int32, pm_V sc d mi nx (pm_s1 ls i (.int z)) st w Q) : pm_V sc d mi pc ls st w Q := v_iinc hc hl rfl (k _)
theorem u_iadd {x y : Int32} (hc : pm_code mi pc = some (.iadd, nx, a, b, c, f)) (k : ∀ z : Int32, pm_V sc d mi nx ls (.int z :: st) w Q) : pm_V sc d mi pc ls (.int y :: .int x :: st) w Q := v_iadd hc (k _)
theorem u_isub {x y : Int32} (hc : pm_code mi pc = some (.isub, nx, a, b, c, f)) (k : ∀ z : Int32, pm_V sc d mi nx ls (.int z :: st) w Q) : pm_V sc d mi pc ls (.int y :: .int x :: st) w Q := v_isub hc (k _)
theorem u_imul {x y : Int32} (hc : pm_code mi pc = some (.imul, nx, a, b, c, f)) (k : ∀ z : Int32, pm_V sc d mi nx ls (.int z :: st) w Q) : pm_V sc d mi pc ls (.int y :: .int x :: st) w Q := v_imul hc (k _)
theorem u_irem {x y : Int32} (hc : pm_code mi pc = some (.irem, nx, a, b, c, f)) (hy : ¬ y.toInt = 0) (k : ∀ z : Int32, pm_V sc d mi nx ls (.int z :: st) w Q) : pm_V sc d mi pc ls (.int y :: .int x :: st) w Q := v_irem hc (fun h => hy (by rw [h]; rfl)) (k _)
theorem u_iand {x y : Int32} (hc : pm_code mi pc = some (.iand, nx, a, b, c, f)) (k : ∀ z : Int32, pm_V sc d mi nx ls (.int z :: st) w Q) : pm_V sc d mi pc ls (.int y :: .int x :: st) w Q := v_iand hc (k _)
theorem u_ior {x y : Int32} (hc : pm_code mi pc = some (.ior, nx, a, b, c, f)) (k : ∀ z : Int32, pm_V sc d mi nx ls (.int z :: st) w Q) : pm_V sc d mi pc ls (.int y :: .int x :: st) w Q := v_ior hc (k _)
theorem u_ixor {x y : Int32} (hc : pm_code mi pc = some (.ixor, nx, a, b, c, f)) (k : ∀ z : Int32, pm_V sc d mi nx ls (.int z :: st) w Q) : pm_V sc d mi pc ls (.int y :: .int x :: st) w Q := v_ixor hc (k _)
theorem u_ishl {x y : Int32} (hc : pm_code mi pc = some (.ishl, nx, a, b, c, f)) (k : ∀ z : Int32, pm_V sc d mi nx ls (.int z :: st) w Q) : pm_V sc d mi pc ls (.int y :: .int x :: st) w Q := v_ishl hc (k _)
theorem u_ishr {x y : Int32} (hc : pm_code mi pc = some (.ishr, nx, a, b, c, f)) (k : ∀ z : Int32, pm_V sc d mi nx ls (.int z :: st) w Q) : pm_V sc d mi pc ls (.int y :: .int x :: st) w Q := v_ishr hc (k _)
theorem u_iushr {x y : Int32} (hc : pm_code mi pc = some (.iushr, nx, a, b, c, f)) (k : ∀ z : Int32, pm_V sc d mi nx ls (.int z :: st) w Q) : pm_V sc d mi pc ls (.int y :: .int x :: st) w Q := v_iushr hc (k _)
theorem u_i2l {x : Int32} (hc : pm_code mi pc = some (.i2l, nx, a, b, c, f)) (k : ∀ z : Int64, pm_V sc d mi nx ls (.long z :: st) w Q) : pm_V sc d mi pc ls (.int x :: st) w Q := v_i2l hc (k _)
theorem u_l2i {x : Int64} (hc : pm_code mi pc = some (.l2i, nx, a, b, c, f)) (k : ∀ z : Int32, pm_V sc d mi nx ls (.int z :: st) w Q) : pm_V sc d mi pc ls (.long x :: st) w Q := v_l2i hc (k _)
theorem u_land {x y : Int64} (hc : pm_code mi pc = some (.land, nx, a, b, c, f)) (k : ∀ z : Int64, pm_V sc d mi nx ls (.long z :: st) w Q) : pm_V sc d mi pc ls (.long y :: .long x :: st) w Q := v_land hc (k _)
theorem u_lor {x y : Int64} (hc : pm_code mi pc = some (.lor, nx, a, b, c, f)) (k : ∀ z : Int64, pm_V sc d mi nx ls (.long z :: st) w Q) : pm_V sc d mi pc ls (.long y :: .long x :: st) w Q := v_lor hc (k _)
theorem u_lshl {x : Int64} {y : Int32} (hc : pm_code mi pc = some (.lshl, nx, a, b, c, f)) (k : ∀ z : Int64, pm_V sc d mi nx ls (.long z :: st) w Q) : pm_V sc d mi pc ls (.int y :: .long x :: st) w Q := v_lshl hc (k _)
theorem u_lushr {x : Int64} {y : Int32} (hc : pm_code mi pc = some (.lushr, nx, a, b, c, f)) (k : ∀ z : Int64, pm_V sc d mi nx ls (.long z :: st) w Q) : pm_V sc d mi pc ls (.int y :: .long x :: st) w Q := v_lushr hc (k _)
theorem u_lcmp {x y : Int64} (hc : pm_code mi pc = some (.lcmp, nx, a, b, c, f)) (k : ∀ z : Int32, pm_V sc d mi nx ls (.int z :: st) w Q) : pm_V sc d mi pc ls (.long y :: .long x :: st) w Q := v_lcmp hc (k _)
theorem r_icmp_eq {off : Int} {x y : Int32} (hc : pm_code mi pc = some (.if_icmp .eq off, nx, a, b, c, f)) (kt : x.toInt = y.toInt → pm_V sc d mi a ls st w Q) (kf : ¬ x.toInt = y.toInt → pm_V sc d mi nx ls st w Q) : pm_V sc d mi pc ls (.int y :: .int x :: st) w Q := v_icmp_eq hc (fun h => kt (i_eq.mp h)) (fun h => kf (fun g => h (i_eq.mpr g)))
theorem r_icmp_ne {off : Int} {x y : Int32} (hc : pm_code mi pc = some (.if_icmp .ne off, nx, a, b, c, f)) (kt : ¬ x.toInt = y.toInt → pm_V sc d mi a ls st w Q) (kf : x.toInt = y.toInt → pm_V sc d mi nx ls st w Q) : pm_V sc d mi pc ls (.int y :: .int x :: st) w Q := v_icmp_ne hc (fun h => kt (fun g => h (i_eq.mpr g))) (fun h => kf (i_eq.mp h))
theorem r_icmp_lt {off : Int} {x y : Int32} (hc : pm_code mi pc = some (.if_icmp .lt off, nx, a, b, c, f)) (kt : x.toInt < y.toInt → pm_V sc d mi a ls st w Q) (kf : ¬ x.toInt < y.toInt → pm_V sc d mi nx ls st w Q) : pm_V sc d mi pc ls (.int y :: .int x :: st) w Q := v_icmp_lt hc (fun h => kt (i_lt.mp h)) (fun h => kf (fun g => h (i_lt.mpr g)))
theorem r_icmp_ge {off : Int} {x y : Int32} (hc : pm_code mi pc = some (.if_icmp .ge off, nx, a, b, c, f)) (kt : ¬ x.toInt < y.toInt → pm_V sc d mi a ls st w Q) (kf : x.toInt < y.toInt → pm_V sc d mi nx ls st w Q) : pm_V sc d mi pc ls (.int y :: .int x :: st) w Q := v_icmp_ge hc (fun h => kt (by rw [i_le] at h; omega)) (fun h => kf (by rw [i_le] at h; omega))
theorem r_icmp_gt {off : Int} {x y : Int32} (hc : pm_code mi pc = some (.if_icmp .gt off, nx, a, b, c, f)) (kt : y.toInt < x.toInt → pm_V sc d mi a ls st w Q) (kf : ¬ y.toInt < x.toInt → pm_V sc d mi nx ls st w Q) : pm_V sc d mi pc ls (.int y :: .int x :: st) w Q := v_icmp_gt hc (fun h => kt (i_lt.mp h)) (fun h => kf (fun g => h (i_lt.mpr g)))
theorem r_icmp_le {off : Int} {x y : Int32} (hc : pm_code mi pc = some (.if_icmp .le off, nx, a, b, c, f)) (kt : x.toInt ≤ y.toInt → pm_V sc d mi a ls st w Q) (kf : ¬ x.toInt ≤ y.toInt → pm_V sc d mi nx ls st w Q) : pm_V sc d mi pc ls (.int y :: .int x :: st) w Q := v_icmp_le hc (fun h => kt (i_le.mp h)) (fun h => kf (fun g => h (i_le.mpr g)))
theorem r_if_eq {off : Int} {x : Int32} (hc : pm_code mi pc = some (.ifCond .eq off, nx, a, b, c, f)) (kt : x.toInt = 0 → pm_V sc d mi a ls st w Q) (kf : ¬ x.toInt = 0 → pm_V sc d mi nx ls st w Q) : pm_V sc d mi pc ls (.int x :: st) w Q := v_if_eq hc (fun h => kt (i_eq.mp h)) (fun h => kf (fun g => h (i_eq.mpr g)))
theorem r_if_ne {off : Int} {x : Int32} (hc : pm_code mi pc = some (.ifCond .ne off, nx, a, b, c, f)) (kt : ¬ x.toInt = 0 → pm_V sc d mi a ls st w Q) (kf : x.toInt = 0 → pm_V sc d mi nx ls st w Q) : pm_V sc d mi pc ls (.int x :: st) w Q := v_if_ne hc (fun h => kt (fun g => h (i_eq.mpr g))) (fun h => kf (i_eq.mp h))
theorem r_if_lt {off : Int} {x : Int32} (hc : pm_code mi pc = some (.ifCond .lt off, nx, a, b, c, f)) (kt : x.toInt < 0 → pm_V sc d mi a ls st w Q) (kf : ¬ x.toInt < 0 → pm_V sc d mi nx ls st w Q) : pm_V sc d mi pc ls (.int x :: st) w Q := v_if_lt hc (fun h => kt (i_lt.mp h)) (fun h => kf (fun g => h (i_lt.mpr g)))
theorem r_if_ge {off : Int} {x : Int32} (hc : pm_code mi pc = some (.ifCond .ge off, nx, a, b, c, f)) (kt : 0 ≤ x.toInt → pm_V sc d mi a ls st w Q) (kf : ¬ 0 ≤ x.toInt → pm_V sc d mi nx ls st w Q) : pm_V sc d mi pc ls (.int x :: st) w Q := v_if_ge hc (fun h => kt (i_le.mp h)) (fun h => kf (fun g => h (i_le.mpr g)))
theorem r_if_le {off : Int} {x : Int32} (hc : pm_code mi pc = some (.ifCond .le off, nx, a, b, c, f)) (kt : x.toInt ≤ 0 → pm_V sc d mi a ls st w Q) (kf : ¬ x.toInt ≤ 0 → pm_V sc d mi nx ls st w Q) : pm_V sc d mi pc ls (.int x :: st) w Q := v_if_le hc (fun h => kt (i_le.mp h)) (fun h => kf (fun g => h (i_le.mpr g)))
theorem r_mem {xs : List Int32} {n : Nat} {i : Int32} (hn : xs.length = n) (h1 : i.toInt < n) (h0 : 0 ≤ i.toInt) : ∃ v, xs[i.toNatClampNeg]? = some v ∧ v ∈ xs ∧ v = xs.getD i.toInt.toNat 0 := by
  have h : i.toNatClampNeg < xs.length := by rw [i_cl, hn]; omega
  refine ⟨xs[i.toNatClampNeg], List.getElem?_eq_getElem h, List.getElem_mem h, ?_⟩
  rw [List.getD_eq_getElem?_getD, ← i_cl, List.getElem?_eq_getElem h]
  rfl
theorem r_nn {i : Int32} (h0 : 0 ≤ i.toInt) : ¬ i < 0 := by rw [i_lt, i_0]; omega
theorem r_ix {i : Int32} {n m : Nat} (hn : m = n) (h1 : i.toInt < n) (h0 : 0 ≤ i.toInt) : i.toNatClampNeg < m := by rw [i_cl, hn]; omega
theorem r_iaload {i : Int32} {q n : Nat} {xs : List Int32} (hc : pm_code mi pc = some (.iaload, nx, a, b, c, f)) (hw : w[q]? = some (.inl (0, .inl xs))) (hn : xs.length = n) (h0 : 0 ≤ i.toInt) (h1 : i.toInt < n) (k : ∀ z : Int32, z ∈ xs → z = xs.getD i.toInt.toNat 0 → pm_V sc d mi nx ls (.int z :: st) w Q) : pm_V sc d mi pc ls (.int i :: .ref q :: st) w Q := by
  obtain ⟨v, g1, g2, g3⟩ := r_mem hn h1 h0
  exact v_iaload hc hw (r_nn h0) g1 (k v g2 g3)
theorem r_baload {i : Int32} {q n : Nat} {xs : List Int32} (hc : pm_code mi pc = some (.baload, nx, a, b, c, f)) (hw : w[q]? = some (.inl (1, .inl xs))) (hn : xs.length = n) (h0 : 0 ≤ i.toInt) (h1 : i.toInt < n) (k : ∀ z : Int32, z ∈ xs → z = xs.getD i.toInt.toNat 0 → pm_V sc d mi nx ls (.int z :: st) w Q) : pm_V sc d mi pc ls (.int i :: .ref q :: st) w Q := by
  obtain ⟨v, g1, g2, g3⟩ := r_mem hn h1 h0
  exact v_baload hc hw (r_nn h0) g1 (k v g2 g3)
theorem r_laload {i : Int32} {q n : Nat} {xs : List Int64} (hc : pm_code mi pc = some (.laload, nx, a, b, c, f)) (hw : w[q]? = some (.inl (2, .inr (.inl xs)))) (hn : xs.length = n) (h0 : 0 ≤ i.toInt) (h1 : i.toInt < n) (k : ∀ z : Int64, pm_V sc d mi nx ls (.long z :: st) w Q) : pm_V sc d mi pc ls (.int i :: .ref q :: st) w Q := v_laload hc hw (r_nn h0) (List.getElem?_eq_getElem (r_ix hn h1 h0)) (k _)
theorem r_set_get {xs : List Int32} {i v : Int32} (h : i.toNatClampNeg < xs.length) : (xs.set i.toNatClampNeg v).getD i.toInt.toNat 0 = v := by
  rw [← i_cl, List.getD_eq_getElem?_getD, List.getElem?_set_self h]
  rfl
theorem r_set_mem {xs : List Int32} {j : Nat} {v : Int32} : ∀ y ∈ xs.set j v, y ∈ xs ∨ y = v := fun _ hy => List.mem_or_eq_of_mem_set hy
theorem r_iastore {i x : Int32} {q n : Nat} {xs : List Int32} (hc : pm_code mi pc = some (.iastore, nx, a, b, c, f)) (hw : w[q]? = some (.inl (0, .inl xs))) (hn : xs.length = n) (h0 : 0 ≤ i.toInt) (h1 : i.toInt < n) (k : ∀ ys : List Int32, ys.length = n → (∀ y ∈ ys, y ∈ xs ∨ y = x) → ys.getD i.toInt.toNat 0 = x → pm_V sc d mi nx ls st (w.set q (.inl (0, .inl ys))) Q) : pm_V sc d mi pc ls (.int x :: .int i :: .ref q :: st) w Q := v_iastore hc hw (r_nn h0) (r_ix hn h1 h0) (k _ (by rw [List.length_set]; exact hn) r_set_mem (r_set_get (r_ix hn h1 h0)))
theorem r_nar {x : Int32} (hx : x.toInt = 0 ∨ x.toInt = 1) : vp_nar .boolean x = x := by
  rcases hx with h | h
  · rw [show x = 0 from i_eq.mpr h]; rfl
  · rw [show x = 1 from i_eq.mpr h]; rfl
theorem r_bastore {i x : Int32} {q n : Nat} {xs : List Int32} (hc : pm_code mi pc = some (.bastore, nx, a, b, c, f)) (hw : w[q]? = some (.inl (1, .inl xs))) (hn : xs.length = n) (h0 : 0 ≤ i.toInt) (h1 : i.toInt < n) (hx : x.toInt = 0 ∨ x.toInt = 1) (k : ∀ ys : List Int32, ys.length = n → (∀ y ∈ ys, y ∈ xs ∨ y = x) → ys.getD i.toInt.toNat 0 = x → pm_V sc d mi nx ls st (w.set q (.inl (1, .inl ys))) Q) : pm_V sc d mi pc ls (.int x :: .int i :: .ref q :: st) w Q := v_bastore hc hw (r_nn h0) (r_ix hn h1 h0) (by rw [r_nar hx]; exact k _ (by rw [List.length_set]; exact hn) r_set_mem (r_set_get (r_ix hn h1 h0)))
theorem r_lastore {i : Int32} {x : Int64} {q n : Nat} {xs : List Int64} (hc : pm_code mi pc = some (.lastore, nx, a, b, c, f)) (hw : w[q]? = some (.inl (2, .inr (.inl xs)))) (hn : xs.length = n) (h0 : 0 ≤ i.toInt) (h1 : i.toInt < n) (k : ∀ ys : List Int64, ys.length = n → pm_V sc d mi nx ls st (w.set q (.inl (2, .inr (.inl ys)))) Q) : pm_V sc d mi pc ls (.long x :: .int i :: .ref q :: st) w Q := v_lastore hc hw (r_nn h0) (r_ix hn h1 h0) (k _ (by rw [List.length_set]; exact hn))
theorem r_rng {xs ys : List Int32} {v : Int32} {lo hi : Int} (h : ∀ y ∈ ys, y ∈ xs ∨ y = v) (hx : ∀ x ∈ xs, pm_rng x lo hi) (h1 : lo ≤ v.toInt) (h2 : v.toInt ≤ hi) : ∀ y ∈ ys, pm_rng y lo hi := fun y hy => by
  rcases h y hy with g | rfl
  · exact hx y g
  · exact ⟨h1, h2⟩
theorem r_zret {x : Int32} (hc : pm_code mi pc = some (.ireturn, nx, 1, b, c, f)) (hx : x.toInt = 0 ∨ x.toInt = 1) (q : Q (some (.int x)) w) : pm_V sc d mi pc ls [.int x] w Q := v_zret hc (hx.imp i_eq.mpr i_eq.mpr) q
theorem r_gen {w' : pm_W} (k : ∀ w1, w1 = w' → pm_V sc d mi pc ls st w1 Q) : pm_V sc d mi pc ls st w' Q := k w' rfl
theorem r_get_ne {w1 w' : pm_W} {p q : Nat} {c0 : pm_C} {o : Option pm_C} (h : w1 = w'.set p c0) (hne : p ≠ q) (g : w'[q]? = o) : w1[q]? = o := by rw [h, List.getElem?_set_ne hne]; exact g
theorem r_get_eq {w1 w' : pm_W} {p : Nat} {c0 c1 : pm_C} (h : w1 = w'.set p c0) (g : w'[p]? = some c1) : w1[p]? = some c0 := by
  obtain ⟨hl, -⟩ := List.getElem?_eq_some_iff.mp g
  rw [h, List.getElem?_set_self hl]
theorem r_okZ {x : Int32} (hx : x.toInt = 0 ∨ x.toInt = 1) : pm_okF .boolean (.int x) = true := by
  rcases hx with h | h
  · rw [show x = 0 from i_eq.mpr h]; rfl
  · rw [show x = 1 from i_eq.mpr h]; rfl
theorem r_max {i : Nat} {x y : Int32} {ci mL : Nat} (hc : pm_code mi pc = some (.invokestatic i, nx, 997, b, ci, mL)) (hd : 1 ≤ d) (hcat : Nat.blt 8 (pm_cat st) = false) (k : ∀ z : Int32, x.toInt ≤ z.toInt → y.toInt ≤ z.toInt → (z.toInt = x.toInt ∨ z.toInt = y.toInt) → pm_V sc d mi nx ls (.int z :: st) w Q) : pm_V sc d mi pc ls (.int y :: .int x :: st) w Q := v_max hc hd hcat (by
  by_cases h : x < y
  · rw [if_pos h]; rw [i_lt] at h; exact k _ (by omega) (by omega) (Or.inr rfl)
  · rw [if_neg h]; rw [i_lt] at h; exact k _ (by omega) (by omega) (Or.inl rfl))
theorem r_min {i : Nat} {x y : Int32} {ci mL : Nat} (hc : pm_code mi pc = some (.invokestatic i, nx, 996, b, ci, mL)) (hd : 1 ≤ d) (hcat : Nat.blt 8 (pm_cat st) = false) (k : ∀ z : Int32, z.toInt ≤ x.toInt → z.toInt ≤ y.toInt → (z.toInt = x.toInt ∨ z.toInt = y.toInt) → pm_V sc d mi nx ls (.int z :: st) w Q) : pm_V sc d mi pc ls (.int y :: .int x :: st) w Q := v_min hc hd hcat (by
  by_cases h : y < x
  · rw [if_pos h]; rw [i_lt] at h; exact k _ (by omega) (by omega) (Or.inr rfl)
  · rw [if_neg h]; rw [i_lt] at h; exact k _ (by omega) (by omega) (Or.inl rfl))
end PmRR
/-- some answer (a number, or none) of which P holds -/
def pm_wI (P : Int32 → Prop) (rv : Option Value) : Prop := ∃ v, rv = some (.int v) ∧ P v
section PmRC
variable {sc : pm_S} {d mi pc nx b ci mL i : Nat} {ls st : List Value} {w : pm_W} {Q : Option Value → pm_W → Prop}
theorem r_cpy_mem {α : Type} {xs ys : List α} {s t n : Nat} : ∀ z ∈ pm_cpy xs ys s t n, z ∈ xs ∨ z ∈ ys := fun z hz => by
  unfold pm_cpy at hz
  simp only [List.mem_append] at hz
  rcases hz with (h | h) | h
  · exact Or.inr (List.mem_of_mem_take h)
  · exact Or.inl (List.mem_of_mem_drop (List.mem_of_mem_take h))
  · exact Or.inr (List.mem_of_mem_drop h)
theorem r_cpy_len {α : Type} {xs ys : List α} {s t n : Nat} (h1 : s + n ≤ xs.length) (h2 : t + n ≤ ys.length) : (pm_cpy xs ys s t n).length = ys.length := by
  unfold pm_cpy
  simp only [List.length_append, List.length_take, List.length_drop]
  omega
theorem r_copyl {n dp sp : Int32} {q0 p0 np nq : Nat} {xs ys : List Int64} (hc : pm_code mi pc = some (.invokestatic i, nx, 999, b, ci, mL)) (hd : 1 ≤ d) (hn : 0 ≤ n.toInt) (hdp : 0 ≤ dp.toInt) (hsp : 0 ≤ sp.toInt) (hne : Nat.beq p0 q0 = false) (hcat : Nat.blt 8 (pm_cat st) = false) (hp : w[p0]? = some (.inl (2, .inr (.inl xs)))) (hq : w[q0]? = some (.inl (2, .inr (.inl ys)))) (lp : xs.length = np) (lq : ys.length = nq) (h1 : sp.toInt + n.toInt ≤ np) (h2 : dp.toInt + n.toInt ≤ nq)
    (k : ∀ zs : List Int64, zs.length = nq → pm_V sc d mi nx ls st (w.set q0 (.inl (2, .inr (.inl zs)))) Q) : pm_V sc d mi pc ls (.int n :: .int dp :: .ref q0 :: .int sp :: .ref p0 :: st) w Q := by
  have e1 : sp.toNatClampNeg + n.toNatClampNeg ≤ xs.length := by rw [i_cl, i_cl, lp]; omega
  have e2 : dp.toNatClampNeg + n.toNatClampNeg ≤ ys.length := by rw [i_cl, i_cl, lq]; omega
  exact v_copyl hc hd (r_nn hn) (r_nn hdp) (r_nn hsp) hne hcat hp hq e1 e2 (k _ (by rw [r_cpy_len e1 e2, lq]))
theorem r_copyi {n dp sp : Int32} {q0 p0 np nq : Nat} {xs ys : List Int32} (hc : pm_code mi pc = some (.invokestatic i, nx, 999, b, ci, mL)) (hd : 1 ≤ d) (hn : 0 ≤ n.toInt) (hdp : 0 ≤ dp.toInt) (hsp : 0 ≤ sp.toInt) (hne : Nat.beq p0 q0 = false) (hcat : Nat.blt 8 (pm_cat st) = false) (hp : w[p0]? = some (.inl (0, .inl xs))) (hq : w[q0]? = some (.inl (0, .inl ys))) (lp : xs.length = np) (lq : ys.length = nq) (h1 : sp.toInt + n.toInt ≤ np) (h2 : dp.toInt + n.toInt ≤ nq)
    (k : ∀ zs : List Int32, zs.length = nq → (∀ z ∈ zs, z ∈ xs ∨ z ∈ ys) → pm_V sc d mi nx ls st (w.set q0 (.inl (0, .inl zs))) Q) : pm_V sc d mi pc ls (.int n :: .int dp :: .ref q0 :: .int sp :: .ref p0 :: st) w Q := by
  have e1 : sp.toNatClampNeg + n.toNatClampNeg ≤ xs.length := by rw [i_cl, i_cl, lp]; omega
  have e2 : dp.toNatClampNeg + n.toNatClampNeg ≤ ys.length := by rw [i_cl, i_cl, lq]; omega
  exact v_copyi hc hd (r_nn hn) (r_nn hdp) (r_nn hsp) hne hcat hp hq e1 e2 (k _ (by rw [r_cpy_len e1 e2, lq]) r_cpy_mem)
theorem r_rng2 {xs ys zs : List Int32} {lo hi : Int} (h : ∀ z ∈ zs, z ∈ xs ∨ z ∈ ys) (hx : ∀ x ∈ xs, pm_rng x lo hi) (hy : ∀ x ∈ ys, pm_rng x lo hi) : ∀ z ∈ zs, pm_rng z lo hi := fun z hz => (h z hz).elim (hx z) (hy z)
end PmRC
