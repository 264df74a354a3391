theorem sq_E_lt {n : Nat} : ∀ {f : Nat → Nat}, (∀ i, i < n → f i < 4) → sq_E f n < 4 ^ n := by
  induction n with
  | zero => intro f _; exact Nat.one_pos
  | succ n ih =>
    intro f h
    have h1 := h 0 (by omega)
    have h2 := ih (f := fun i => f (i + 1)) (fun i hi => h (i + 1) (by omega))
    show f 0 + 4 * sq_E (fun i => f (i + 1)) n < 4 ^ (n + 1)
    rw [Nat.pow_succ]
    omega
theorem sq_E_dig {n : Nat} : ∀ {f : Nat → Nat} {x : Nat}, (∀ i, i < n → f i < 4) → x < n → sq_E f n / 4 ^ x % 4 = f x := by
  induction n with
  | zero => intro f x _ h; omega
  | succ n ih =>
    intro f x h hx
    have h0 := h 0 (by omega)
    show (f 0 + 4 * sq_E (fun i => f (i + 1)) n) / 4 ^ x % 4 = f x
    cases x with
    | zero => rw [Nat.pow_zero, Nat.div_one]; omega
    | succ x =>
      rw [Nat.pow_succ, Nat.mul_comm (4 ^ x) 4, ← Nat.div_div_eq_div_mul]
      rw [show (f 0 + 4 * sq_E (fun i => f (i + 1)) n) / 4 = sq_E (fun i => f (i + 1)) n by omega]
      exact ih (f := fun i => f (i + 1)) (fun i hi => h (i + 1) (by omega)) (by omega)
theorem sq_E_ext {n : Nat} : ∀ {f g : Nat → Nat}, (∀ i, i < n → f i = g i) → sq_E f n = sq_E g n := by
  induction n with
  | zero => intro f g _; rfl
  | succ n ih =>
    intro f g h
    show f 0 + 4 * sq_E (fun i => f (i + 1)) n = g 0 + 4 * sq_E (fun i => g (i + 1)) n
    rw [h 0 (by omega), ih (f := fun i => f (i + 1)) (g := fun i => g (i + 1)) (fun i hi => h (i + 1) (by omega))]
theorem sq_E_inj {n : Nat} {f g : Nat → Nat} (hf : ∀ i, i < n → f i < 4) (hg : ∀ i, i < n → g i < 4) (h : sq_E f n = sq_E g n) : ∀ i, i < n → f i = g i := fun i hi => by
  rw [← sq_E_dig hf hi, ← sq_E_dig hg hi, h]
/-- xor by digits of two bits -/
theorem pm_xor4 {a b c d : Nat} (ha : a < 4) (hc : c < 4) : (a + 4 * b) ^^^ (c + 4 * d) = (a ^^^ c) + 4 * (b ^^^ d) := by
  have hx : a ^^^ c < 4 := Nat.xor_lt_two_pow (n := 2) ha hc
  apply Nat.eq_of_testBit_eq
  intro i
  rw [Nat.testBit_xor, show a + 4 * b = 2 ^ 2 * b + a by omega, show c + 4 * d = 2 ^ 2 * d + c by omega, show (a ^^^ c) + 4 * (b ^^^ d) = 2 ^ 2 * (b ^^^ d) + (a ^^^ c) by omega]
  rw [Nat.testBit_two_pow_mul_add _ ha, Nat.testBit_two_pow_mul_add _ hc, Nat.testBit_two_pow_mul_add _ hx]
  split
  · rw [Nat.testBit_xor]
  · rw [Nat.testBit_xor]
theorem sq_E_xor {n : Nat} : ∀ {f : Nat → Nat} {x v : Nat}, (∀ i, i < n → f i < 4) → v < 4 → x < n → sq_E f n ^^^ (v * 4 ^ x) = sq_E (fun i => if i = x then f x ^^^ v else f i) n := by
  induction n with
  | zero => intro f x v _ _ h; omega
  | succ n ih =>
    intro f x v h hv hx
    have h0 := h 0 (by omega)
    show (f 0 + 4 * sq_E (fun i => f (i + 1)) n) ^^^ (v * 4 ^ x) = (if 0 = x then f x ^^^ v else f 0) + 4 * sq_E (fun i => if i + 1 = x then f x ^^^ v else f (i + 1)) n
    cases x with
    | zero =>
      rw [Nat.pow_zero, Nat.mul_one, if_pos rfl, show v = v + 4 * 0 by omega, pm_xor4 h0 hv, Nat.xor_zero]
      rw [show v + 4 * 0 = v by omega, sq_E_ext (f := fun i => if i + 1 = 0 then f 0 ^^^ v else f (i + 1)) (g := fun i => f (i + 1)) (fun i _ => if_neg (by omega))]
    | succ x =>
      rw [if_neg (by omega), Nat.pow_succ, show v * (4 ^ x * 4) = 0 + 4 * (v * 4 ^ x) by rw [Nat.zero_add, Nat.mul_comm (4 ^ x) 4, ← Nat.mul_assoc, ← Nat.mul_assoc, Nat.mul_comm v 4], pm_xor4 h0 (by omega), Nat.xor_zero]
      rw [ih (f := fun i => f (i + 1)) (fun i hi => h (i + 1) (by omega)) hv (by omega)]
      rw [sq_E_ext (f := fun i => if i = x then f (x + 1) ^^^ v else f (i + 1)) (g := fun i => if i + 1 = x + 1 then f (x + 1) ^^^ v else f (i + 1)) (fun i _ => by
        by_cases e : i = x
        · rw [if_pos e, if_pos (by omega)]
        · rw [if_neg e, if_neg (by omega)])]
set_option maxRecDepth 100000 in
theorem pm_shl4 : ∀ x, x < 20 → ∀ v, v < 4 → ((nI v).toInt64 <<< ((2 * nI x).toInt64 &&& 63)) = Int64.ofNat (v * 4 ^ x) := by decide +kernel
set_option maxRecDepth 100000 in
theorem pm_xorI : ∀ a, a < 4 → ∀ b, b < 4 → (nI a ^^^ nI b) = nI (a ^^^ b) := by decide +kernel
set_option maxRecDepth 100000 in
theorem pm_shc : ∀ x, x < 20 → ((2 * nI x).toInt64.toUInt64 &&& Int64.toUInt64 63).toNat = 2 * x := by decide +kernel
theorem pm_ofNat_xor (a b : Nat) : Int64.ofNat a ^^^ Int64.ofNat b = Int64.ofNat (a ^^^ b) := by
  apply Int64.toBitVec_inj.mp
  show BitVec.ofNat 64 a ^^^ BitVec.ofNat 64 b = BitVec.ofNat 64 (a ^^^ b)
  exact BitVec.ofNat_xor.symm
theorem pm_shr4 {N x : Nat} (hN : N < 2 ^ 64) (hx : x < 20) : (((Int64.ofNat N).toUInt64 >>> ((2 * nI x).toInt64.toUInt64 &&& Int64.toUInt64 63)).toInt64 &&& 3).toInt32 = nI (N / 4 ^ x % 4) := by
  have hs := pm_shc x hx
  generalize ((2 * nI x).toInt64.toUInt64 &&& Int64.toUInt64 63) = S at hs
  have e1 : ((Int64.ofNat N).toUInt64 >>> S).toNat = N / 4 ^ x := by
    rw [UInt64.toNat_shiftRight, hs, Nat.mod_eq_of_lt (show 2 * x < 64 by omega), Nat.shiftRight_eq_div_pow, show (2 : Nat) ^ (2 * x) = 4 ^ x by rw [Nat.pow_mul]]
    rw [show (Int64.ofNat N).toUInt64 = UInt64.ofNat N from rfl, UInt64.toNat_ofNat', Nat.mod_eq_of_lt hN]
  generalize (Int64.ofNat N).toUInt64 >>> S = U at e1
  apply Int32.toBitVec_inj.mp
  apply BitVec.eq_of_toNat_eq
  show (((U.toBitVec &&& 3#64)).signExtend 32).toNat = (BitVec.ofNat 32 (N / 4 ^ x % 4)).toNat
  rw [BitVec.signExtend_eq_setWidth_of_le _ (by decide), BitVec.toNat_setWidth, BitVec.toNat_and, BitVec.toNat_ofNat]
  rw [show U.toBitVec.toNat = N / 4 ^ x from e1, show 3 % 2 ^ 64 = 2 ^ 2 - 1 from rfl, Nat.and_two_pow_sub_one_eq_mod, BitVec.toNat_ofNat]
/-- a row of squares: 400 colours -/
def sq_cl (ds : List Int32) : Prop := ds.length = 400 ∧ ∀ x ∈ ds, pm_rng x 0 3
theorem sq_cl.at {ds : List Int32} (h : sq_cl ds) (k : Nat) : 0 ≤ (ds.getD k 0).toInt ∧ (ds.getD k 0).toInt ≤ 3 := by
  by_cases hk : k < ds.length
  · exact h.2 _ (pm_mem_getD hk)
  · rw [List.getD_eq_getElem?_getD, List.getElem?_eq_none (by omega)]
    exact ⟨by decide, by decide⟩
theorem sq_cl.row {ds : List Int32} (h : sq_cl ds) (y i : Nat) : pm_rowf ds y i < 4 := by
  have := h.at (20 * y + i)
  unfold pm_rowf
  omega
theorem sq_cl.nI {ds : List Int32} (h : sq_cl ds) (y x : Nat) : nI (pm_rowf ds y x) = ds.getD (20 * y + x) 0 := (i_nI (h.at _).1).symm
theorem sq_cl.set {ds : List Int32} (h : sq_cl ds) {k : Nat} {c : Int32} (h0 : 0 ≤ c.toInt) (h3 : c.toInt ≤ 3) : sq_cl (ds.set k c) := ⟨by rw [List.length_set]; exact h.1, fun x hx => by
  rcases List.mem_or_eq_of_mem_set hx with g | rfl
  · exact h.2 x g
  · exact ⟨h0, h3⟩⟩
theorem pm_enc_at {ds : List Int32} {y : Nat} (hy : y < 20) : (pm_enc ds)[y]? = some (Int64.ofNat (sq_E (pm_rowf ds y) 20)) := by
  unfold pm_enc
  rw [List.getElem?_map, List.getElem?_range hy]
  rfl
/-- the colour of a square, out of its row -/
theorem pm_col_enc {ds : List Int32} (h : sq_cl ds) {x y : Int32} (x0 : 0 ≤ x.toInt) (x1 : x.toInt < 20) (y0 : 0 ≤ y.toInt) (y1 : y.toInt < 20) : pm_col (pm_enc ds) x y = ds.getD (20 * y.toInt.toNat + x.toInt.toNat) 0 := by
  have hx : x = nI x.toInt.toNat := i_nI x0
  have e : (pm_enc ds).getD y.toNatClampNeg 0 = Int64.ofNat (sq_E (pm_rowf ds y.toInt.toNat) 20) := by
    rw [List.getD_eq_getElem?_getD, i_cl, pm_enc_at (by omega)]
    rfl
  unfold pm_col
  rw [e]
  have hl := sq_E_lt (n := 20) (fun i _ => h.row y.toInt.toNat i)
  have hq := pm_shr4 (N := sq_E (pm_rowf ds y.toInt.toNat) 20) (x := x.toInt.toNat) (by have : (4 : Nat) ^ 20 < 2 ^ 64 := by decide
                                                                                        omega) (by omega)
  rw [← hx] at hq
  rw [hq, sq_E_dig (fun i _ => h.row _ i) (by omega), h.nI]
/-- a square painted -/
theorem pm_paint_enc {ds : List Int32} (h : sq_cl ds) {x y c : Int32} (x0 : 0 ≤ x.toInt) (x1 : x.toInt < 20) (y0 : 0 ≤ y.toInt) (y1 : y.toInt < 20) (c0 : 0 ≤ c.toInt) (c1 : c.toInt < 4) {z : Int64} (hz : (pm_enc ds)[y.toNatClampNeg]? = some z) : (pm_enc ds).set y.toNatClampNeg (z ^^^ ((ds.getD (20 * y.toInt.toNat + x.toInt.toNat) 0 ^^^ c).toInt64 <<< ((2 * x).toInt64 &&& 63))) = pm_enc (ds.set (20 * y.toInt.toNat + x.toInt.toNat) c) := by
  have hx : x = nI x.toInt.toNat := i_nI x0
  have hc : c = nI c.toInt.toNat := i_nI c0
  have hd : ds.getD (20 * y.toInt.toNat + x.toInt.toNat) 0 = nI (pm_rowf ds y.toInt.toNat x.toInt.toNat) := (h.nI _ _).symm
  rw [i_cl] at hz ⊢
  rw [pm_enc_at (by omega)] at hz
  injection hz with hz
  have hr := h.row y.toInt.toNat x.toInt.toNat
  have hv : (pm_rowf ds y.toInt.toNat x.toInt.toNat ^^^ c.toInt.toNat) < 4 := Nat.xor_lt_two_pow (n := 2) hr (by omega)
  have e1 : (ds.getD (20 * y.toInt.toNat + x.toInt.toNat) 0 ^^^ c).toInt64 <<< ((2 * x).toInt64 &&& 63) = Int64.ofNat ((pm_rowf ds y.toInt.toNat x.toInt.toNat ^^^ c.toInt.toNat) * 4 ^ x.toInt.toNat) := by
    have q := pm_shl4 x.toInt.toNat (by omega) _ hv
    rw [← hx] at q
    rw [hd]
    rw [show (nI (pm_rowf ds y.toInt.toNat x.toInt.toNat) ^^^ c) = nI (pm_rowf ds y.toInt.toNat x.toInt.toNat ^^^ c.toInt.toNat) from (by
      have q2 := pm_xorI _ hr c.toInt.toNat (by omega)
      rw [← hc] at q2
      exact q2)]
    exact q
  rw [e1, ← hz, pm_ofNat_xor, sq_E_xor (fun i _ => h.row _ i) hv (by omega)]
  apply List.ext_getElem?
  intro j
  by_cases hj : j < 20
  · rw [pm_enc_at hj]
    by_cases e : y.toInt.toNat = j
    · subst e
      rw [List.getElem?_set_self (by rw [pm_enc_len]; omega)]
      refine congrArg (fun n => some (Int64.ofNat n)) (sq_E_ext (fun i hi => ?_))
      unfold pm_rowf
      by_cases ei : i = x.toInt.toNat
      · rw [if_pos ei, ei, pm_getD_set (by rw [h.1]; omega), if_pos rfl, ← Nat.xor_assoc, Nat.xor_self, Nat.zero_xor]
      · rw [if_neg ei, List.getD_eq_getElem?_getD, List.getD_eq_getElem?_getD, List.getElem?_set_ne (by omega)]
    · rw [List.getElem?_set_ne e, pm_enc_at hj]
      refine congrArg (fun n => some (Int64.ofNat n)) (sq_E_ext (fun i hi => ?_))
      unfold pm_rowf
      rw [List.getD_eq_getElem?_getD, List.getD_eq_getElem?_getD, List.getElem?_set_ne (by omega)]
  · rw [List.getElem?_eq_none (by rw [List.length_set, pm_enc_len]; omega), List.getElem?_eq_none (by rw [pm_enc_len]; omega)]
theorem r_lcmp {sc : pm_S} {d mi pc nx a b c f : Nat} {ls st : List Value} {w : pm_W} {Q : Option Value → pm_W → Prop} {x y : Int64} (hc : pm_code mi pc = some (.lcmp, nx, a, b, c, f)) (k : ∀ z : Int32, (z.toInt = 0 ↔ x = y) → pm_V sc d mi nx ls (.int z :: st) w Q) : pm_V sc d mi pc ls (.long y :: .long x :: st) w Q := v_lcmp hc (k _ (by rw [← i_0, ← i_eq]; exact lg_cmp_eq x y))
theorem sq_E_succ (n : Nat) : ∀ f : Nat → Nat, sq_E f (n + 1) = sq_E f n + f n * 4 ^ n := by
  induction n with
  | zero => intro f; show f 0 + 4 * 0 = 0 + f 0 * 4 ^ 0; omega
  | succ n ih =>
    intro f
    show f 0 + 4 * sq_E (fun i => f (i + 1)) (n + 1) = (f 0 + 4 * sq_E (fun i => f (i + 1)) n) + f (n + 1) * 4 ^ (n + 1)
    rw [ih, Nat.pow_succ, Nat.mul_add, ← Nat.mul_assoc (f (n + 1)), Nat.mul_comm (f (n + 1) * 4 ^ n) 4]
    omega
theorem sq_E_or {n v : Nat} {f : Nat → Nat} (h : ∀ i, i < n → f i < 4) : sq_E f n ||| (v * 4 ^ n) = sq_E f n + v * 4 ^ n := by
  have hl := sq_E_lt h
  have e : (4 : Nat) ^ n = 2 ^ (2 * n) := by rw [Nat.pow_mul]
  rw [e] at hl ⊢
  have q := Nat.two_pow_add_eq_or_of_lt hl v
  rw [Nat.or_comm, Nat.mul_comm v, ← q, Nat.add_comm]
theorem pm_ofNat_or (a b : Nat) : Int64.ofNat a ||| Int64.ofNat b = Int64.ofNat (a ||| b) := by
  apply Int64.toBitVec_inj.mp
  show BitVec.ofNat 64 a ||| BitVec.ofNat 64 b = BitVec.ofNat 64 (a ||| b)
  exact BitVec.ofNat_or.symm
section PmIx
variable {sc : pm_S} {d mi pc nx a b c f : Nat} {ls st : List Value} {w : pm_W} {Q : Option Value → pm_W → Prop}
theorem r_iastx {i x : Int32} {q n : Nat} {xs : List Int32} (hc : pm_code mi pc = some (.iastore, nx, a, b, c, f)) (hw : w[q]? = some (.inl (0, .inl xs))) (hn : xs.length = n) (h0 : 0 ≤ i.toInt) (h1 : i.toInt < n) (k : ∀ ys : List Int32, ys.length = n → (∀ y ∈ ys, y ∈ xs ∨ y = x) → ys.getD i.toInt.toNat 0 = x → (∀ j, j ≠ i.toInt.toNat → ys.getD j 0 = xs.getD j 0) → pm_V sc d mi nx ls st (w.set q (.inl (0, .inl ys))) Q) : pm_V sc d mi pc ls (.int x :: .int i :: .ref q :: st) w Q := v_iastore hc hw (r_nn h0) (r_ix hn h1 h0) (k _ (by rw [List.length_set]; exact hn) r_set_mem (r_set_get (r_ix hn h1 h0)) (fun j hj => by
  rw [List.getD_eq_getElem?_getD, List.getD_eq_getElem?_getD, List.getElem?_set_ne (by rw [i_cl]; exact fun e => hj e.symm)]))
theorem r_bastx {i x : Int32} {q n : Nat} {xs : List Int32} (hc : pm_code mi pc = some (.bastore, nx, a, b, c, f)) (hw : w[q]? = some (.inl (1, .inl xs))) (hn : xs.length = n) (h0 : 0 ≤ i.toInt) (h1 : i.toInt < n) (hx : x.toInt = 0 ∨ x.toInt = 1) (k : ∀ ys : List Int32, ys.length = n → (∀ y ∈ ys, y ∈ xs ∨ y = x) → ys.getD i.toInt.toNat 0 = x → (∀ j, j ≠ i.toInt.toNat → ys.getD j 0 = xs.getD j 0) → pm_V sc d mi nx ls st (w.set q (.inl (1, .inl ys))) Q) : pm_V sc d mi pc ls (.int x :: .int i :: .ref q :: st) w Q := v_bastore hc hw (r_nn h0) (r_ix hn h1 h0) (by
  rw [r_nar hx]
  exact k _ (by rw [List.length_set]; exact hn) r_set_mem (r_set_get (r_ix hn h1 h0)) (fun j hj => by
    rw [List.getD_eq_getElem?_getD, List.getD_eq_getElem?_getD, List.getElem?_set_ne (by rw [i_cl]; exact fun e => hj e.symm)]))
end PmIx
