theorem r_cpy0 {α : Type} {xs ys : List α} {n j : Nat} (hj : j < n) (hx : n ≤ xs.length) : (pm_cpy xs ys 0 0 n)[j]? = xs[j]? := by
  unfold pm_cpy
  rw [List.take_zero, List.nil_append, List.drop_zero, List.getElem?_append_left (by rw [List.length_take]; omega), List.getElem?_take_of_lt hj]
theorem r_copylx {sc : pm_S} {d mi pc nx b i ci mL : Nat} {ls st : List Value} {w : pm_W} {Q : Option Value → pm_W → Prop} {n dp sp : Int32} {q0 p0 np nq : Nat} {xs ys : List Int64} (hc : pm_code mi pc = some (.invokestatic i, nx, 999, b, ci, mL)) (hd : 1 ≤ d) (hn : 0 ≤ n.toInt) (hdp : dp.toInt = 0) (hsp : sp.toInt = 0) (hne : Nat.beq p0 q0 = false) (hcat : Nat.blt 8 (pm_cat st) = false) (hp : w[p0]? = some (.inl (2, .inr (.inl xs)))) (hq : w[q0]? = some (.inl (2, .inr (.inl ys)))) (lp : xs.length = np) (lq : ys.length = nq) (h1 : n.toInt ≤ np) (h2 : n.toInt ≤ nq)
    (k : ∀ zs : List Int64, zs.length = nq → (∀ j, j < n.toInt.toNat → zs[j]? = xs[j]?) → pm_V sc d mi nx ls st (w.set q0 (.inl (2, .inr (.inl zs)))) Q) : pm_V sc d mi pc ls (.int n :: .int dp :: .ref q0 :: .int sp :: .ref p0 :: st) w Q := by
  have e0 : sp.toNatClampNeg = 0 := by rw [i_cl, hsp]; rfl
  have e9 : dp.toNatClampNeg = 0 := by rw [i_cl, hdp]; rfl
  have e1 : sp.toNatClampNeg + n.toNatClampNeg ≤ xs.length := by rw [e0, i_cl, lp]; omega
  have e2 : dp.toNatClampNeg + n.toNatClampNeg ≤ ys.length := by rw [e9, i_cl, lq]; omega
  refine v_copyl hc hd (r_nn hn) (r_nn (by omega)) (r_nn (by omega)) hne hcat hp hq e1 e2 (k _ (by rw [r_cpy_len e1 e2, lq]) (fun j hj => ?_))
  rw [e0, e9]
  exact r_cpy0 (by rw [i_cl]; exact hj) (by rw [i_cl, lp]; omega)
/-- codes of rows -/
theorem sq_rc_iff {ds : List Int32} (hcl : sq_cl ds) {a b : Nat} : Int64.ofNat (sq_E (pm_rowf ds a) 20) = Int64.ofNat (sq_E (pm_rowf ds b) 20) ↔ ∀ x, x < 20 → sq_c ds x a = sq_c ds x b := by
  have ha : ∀ i, i < 20 → pm_rowf ds a i < 4 := fun i _ => hcl.row a i
  have hb : ∀ i, i < 20 → pm_rowf ds b i < 4 := fun i _ => hcl.row b i
  have la := sq_E_lt ha
  have lb := sq_E_lt hb
  have hp : (4 : Nat) ^ 20 ≤ 2 ^ 40 := by decide
  constructor
  · intro h x hx
    exact sq_c_of hcl (sq_E_inj ha hb (sq_ofNat_inj (by omega) (by omega) h) x hx)
  · intro h
    rw [sq_E_ext (f := pm_rowf ds a) (g := pm_rowf ds b) (fun i hi => by
      have q := h i hi
      unfold sq_c at q
      unfold pm_rowf
      rw [q])]
def sq_L0 (ds : List Int32) (H j k : Nat) : Prop := ∀ y, y < H → sq_c ds j y = sq_c ds k y
def sq_L1 (ds : List Int32) (W j k : Nat) : Prop := ∀ x, x < W → sq_c ds x j = sq_c ds x k
theorem sq_cs0 {ds : List Int32} {cs : List Int64} {W H : Nat} (hcl : sq_cl ds) (hH : H ≤ 20) (hc : ∀ j, j < W → cs[j]? = some (Int64.ofNat (sq_E (pm_colf ds j) H))) {j k : Nat} (hj : j < W) (hk : k < W) : cs[j]? = cs[k]? ↔ sq_L0 ds H j k := by
  rw [hc j hj, hc k hk]
  exact ⟨fun h => (sq_cc_iff hcl hH).mp (Option.some.inj h), fun h => by rw [(sq_cc_iff hcl hH).mpr h]⟩
theorem sq_cs1 {gi : Nat → Int32} {ga : Nat → List Int32} {cs : List Int64} (hcl : sq_cl (ga 15)) (hO : pm_Oz gi ga) (hW : (gi 0).toInt.toNat ≤ 20) (hH : (gi 1).toInt.toNat ≤ 20) (hc : ∀ j, j < (gi 1).toInt.toNat → cs[j]? = some (Int64.ofNat (sq_E (pm_rowf (ga 15) j) 20))) {j k : Nat} (hj : j < (gi 1).toInt.toNat) (hk : k < (gi 1).toInt.toNat) : cs[j]? = cs[k]? ↔ sq_L1 (ga 15) (gi 0).toInt.toNat j k := by
  rw [hc j hj, hc k hk]
  constructor
  · intro h x hx
    exact (sq_rc_iff hcl).mp (Option.some.inj h) x (by omega)
  · intro h
    rw [(sq_rc_iff hcl).mpr (fun x hx => ?_)]
    by_cases e : x < (gi 0).toInt.toNat
    · exact h x e
    · unfold sq_c
      rw [hO x j hx (by omega) (Or.inl (by omega)), hO x k hx (by omega) (Or.inl (by omega))]
theorem sq_RC1 {gi : Nat → Int32} {ga : Nat → List Int32} {cs : List Int64} {n : Nat} (hcl : sq_cl (ga 15)) (hO : pm_Oz gi ga) (h0 : 0 < (gi 1).toInt.toNat) (hW : (gi 0).toInt.toNat ≤ 20) (hH : (gi 1).toInt.toNat ≤ 20) (hc : ∀ j, j < (gi 1).toInt.toNat → cs[j]? = some (Int64.ofNat (sq_E (pm_rowf (ga 15) j) 20))) : sq_RC cs (gi 1).toInt.toNat n ↔ sq_R1 (ga 15) (gi 0).toInt.toNat (gi 1).toInt.toNat n := by
  constructor
  · intro h x hx y hy
    exact (sq_cs1 hcl hO hW hH hc hy (Nat.mod_lt _ h0)).mp (h y hy) x hx
  · intro h i hi
    exact (sq_cs1 hcl hO hW hH hc hi (Nat.mod_lt _ h0)).mpr (fun x hx => h x hx i hi)
/-- the reference's words -/
theorem sq_same0 {ds : List Int32} {W H n b : Nat} (hb : b = 0) : (∀ x, x < W → ∀ y, y < H → sq_c ds x y = sq_c ds ((x + n) % W) ((y + b) % H)) ↔ sq_R0 ds W H n := by
  subst hb
  constructor
  · intro h x hx y hy
    have q := h x hx y hy
    rw [Nat.add_zero, Nat.mod_eq_of_lt hy] at q
    exact q
  · intro h x hx y hy
    rw [Nat.add_zero, Nat.mod_eq_of_lt hy]
    exact h x hx y hy
theorem sq_same1 {ds : List Int32} {W H n a : Nat} (ha : a = 0) : (∀ x, x < W → ∀ y, y < H → sq_c ds x y = sq_c ds ((x + a) % W) ((y + n) % H)) ↔ sq_R1 ds W H n := by
  subst ha
  constructor
  · intro h x hx y hy
    have q := h x hx y hy
    rw [Nat.add_zero, Nat.mod_eq_of_lt hx] at q
    exact q
  · intro h x hx y hy
    rw [Nat.add_zero, Nat.mod_eq_of_lt hx]
    exact h x hx y hy
theorem sq_R0_all {ds : List Int32} {W H : Nat} : sq_R0 ds W H W := fun x hx y _ => by rw [Nat.add_mod_right, Nat.mod_eq_of_lt hx]
theorem sq_R1_all {ds : List Int32} {W H : Nat} : sq_R1 ds W H H := fun x _ y hy => by rw [Nat.add_mod_right, Nat.mod_eq_of_lt hy]
def sq_Pspan (gi : Nat → Int32) (ga : Nat → List Int32) (k v : Int32) : Prop := (¬ (0 ≤ k.toInt ∧ k.toInt < 2) ∧ v.toInt = -2) ∨ (k.toInt = 0 ∧ 0 ≤ v.toInt ∧ sq_LS (gi 0).toInt.toNat (sq_R0 (ga 15) (gi 0).toInt.toNat (gi 1).toInt.toNat) v.toInt.toNat) ∨ (k.toInt = 1 ∧ 0 ≤ v.toInt ∧ sq_LS (gi 1).toInt.toNat (sq_R1 (ga 15) (gi 0).toInt.toNat (gi 1).toInt.toNat) v.toInt.toNat)
theorem sq_LS.imp {A r : Nat} {P P' : Nat → Prop} (h : sq_LS A P r) (hp : ∀ n, P n ↔ P' n) : sq_LS A P' r := ⟨h.1, h.2.1, h.2.2.1, (hp r).mp h.2.2.2.1, fun n h1 h2 h3 => h.2.2.2.2 n h1 h2 ⟨h3.1, (hp n).mpr h3.2⟩⟩
theorem rel_span {gi : Nat → Int32} {ga : Nat → List Int32} {k v u : Int32} (h : sq_Pspan gi ga k v) (g : sq_Pspan gi ga k u) : v = u := by
  refine i_eq.mpr ?_
  rcases h with ⟨h0, h1⟩ | ⟨h0, h1, h2⟩ | ⟨h0, h1, h2⟩
  · rcases g with ⟨g0, g1⟩ | ⟨g0, g1, g2⟩ | ⟨g0, g1, g2⟩ <;> omega
  · rcases g with ⟨g0, g1⟩ | ⟨g0, g1, g2⟩ | ⟨g0, g1, g2⟩
    · omega
    · have e := h2.uniq g2 (fun _ => Iff.rfl)
      omega
    · omega
  · rcases g with ⟨g0, g1⟩ | ⟨g0, g1, g2⟩ | ⟨g0, g1, g2⟩
    · omega
    · omega
    · have e := h2.uniq g2 (fun _ => Iff.rfl)
      omega
/-- mirrors -/
def sq_MC (cs : List Int64) (A m : Nat) : Prop := ∀ k, k < A → cs[(m + A - k) % A]? = cs[(m + k) % A]?
def sq_M0 (ds : List Int32) (W H m : Nat) : Prop := ∀ k, k < W → ∀ i, i < H → sq_c ds ((m + W - k) % W) i = sq_c ds ((m + k) % W) i
def sq_M1 (ds : List Int32) (W H m : Nat) : Prop := ∀ k, k < H → ∀ i, i < W → sq_c ds i ((m + H - k) % H) = sq_c ds i ((m + k) % H)
theorem sq_MC0 {ds : List Int32} {cs : List Int64} {W H m : Nat} (hcl : sq_cl ds) (hW : 0 < W) (hH : H ≤ 20) (hc : ∀ j, j < W → cs[j]? = some (Int64.ofNat (sq_E (pm_colf ds j) H))) : sq_MC cs W m ↔ sq_M0 ds W H m := by
  constructor
  · intro h k hk
    exact (sq_cs0 hcl hH hc (Nat.mod_lt _ hW) (Nat.mod_lt _ hW)).mp (h k hk)
  · intro h k hk
    exact (sq_cs0 hcl hH hc (Nat.mod_lt _ hW) (Nat.mod_lt _ hW)).mpr (h k hk)
theorem sq_MC1 {gi : Nat → Int32} {ga : Nat → List Int32} {cs : List Int64} {m : Nat} (hcl : sq_cl (ga 15)) (hO : pm_Oz gi ga) (h0 : 0 < (gi 1).toInt.toNat) (hW : (gi 0).toInt.toNat ≤ 20) (hH : (gi 1).toInt.toNat ≤ 20) (hc : ∀ j, j < (gi 1).toInt.toNat → cs[j]? = some (Int64.ofNat (sq_E (pm_rowf (ga 15) j) 20))) : sq_MC cs (gi 1).toInt.toNat m ↔ sq_M1 (ga 15) (gi 0).toInt.toNat (gi 1).toInt.toNat m := by
  constructor
  · intro h k hk
    exact (sq_cs1 hcl hO hW hH hc (Nat.mod_lt _ h0) (Nat.mod_lt _ h0)).mp (h k hk)
  · intro h k hk
    exact (sq_cs1 hcl hO hW hH hc (Nat.mod_lt _ h0) (Nat.mod_lt _ h0)).mpr (h k hk)
/-- the least that mirrors; -9: none -/
def sq_LM (A : Nat) (P : Nat → Prop) (v : Int) : Prop := (v = -9 ∧ ∀ m, m < A → ¬ P m) ∨ (∃ r : Nat, v = (r : Int) ∧ r < A ∧ P r ∧ ∀ m, m < r → ¬ P m)
theorem sq_LM.uniq {A : Nat} {P : Nat → Prop} {v u : Int} (h : sq_LM A P v) (g : sq_LM A P u) : v = u := by
  rcases h with ⟨h0, h1⟩ | ⟨r, h0, h1, h2, h3⟩
  · rcases g with ⟨g0, g1⟩ | ⟨s, g0, g1, g2, g3⟩
    · omega
    · exact absurd g2 (h1 s g1)
  · rcases g with ⟨g0, g1⟩ | ⟨s, g0, g1, g2, g3⟩
    · exact absurd h2 (g1 r h1)
    · rcases Nat.lt_trichotomy r s with q | q | q
      · exact absurd h2 (g3 r q)
      · omega
      · exact absurd g2 (h3 s q)
theorem sq_LM.imp {A : Nat} {P P' : Nat → Prop} {v : Int} (h : sq_LM A P v) (hp : ∀ n, P n ↔ P' n) : sq_LM A P' v := by
  rcases h with ⟨h0, h1⟩ | ⟨r, h0, h1, h2, h3⟩
  · exact Or.inl ⟨h0, fun m hm q => h1 m hm ((hp m).mpr q)⟩
  · exact Or.inr ⟨r, h0, h1, (hp r).mp h2, fun m hm q => h3 m hm ((hp m).mpr q)⟩
def sq_Pmirror (gi : Nat → Int32) (ga : Nat → List Int32) (k v : Int32) : Prop := (¬ (0 ≤ k.toInt ∧ k.toInt < 2) ∧ v.toInt = -2) ∨ (k.toInt = 0 ∧ sq_LM (gi 0).toInt.toNat (sq_M0 (ga 15) (gi 0).toInt.toNat (gi 1).toInt.toNat) v.toInt) ∨ (k.toInt = 1 ∧ sq_LM (gi 1).toInt.toNat (sq_M1 (ga 15) (gi 0).toInt.toNat (gi 1).toInt.toNat) v.toInt)
theorem rel_mirror {gi : Nat → Int32} {ga : Nat → List Int32} {k v u : Int32} (h : sq_Pmirror gi ga k v) (g : sq_Pmirror gi ga k u) : v = u := by
  refine i_eq.mpr ?_
  rcases h with ⟨h0, h1⟩ | ⟨h0, h2⟩ | ⟨h0, h2⟩
  · rcases g with ⟨g0, g1⟩ | ⟨g0, g2⟩ | ⟨g0, g2⟩ <;> omega
  · rcases g with ⟨g0, g1⟩ | ⟨g0, g2⟩ | ⟨g0, g2⟩
    · omega
    · exact h2.uniq g2
    · omega
  · rcases g with ⟨g0, g1⟩ | ⟨g0, g2⟩ | ⟨g0, g2⟩
    · omega
    · omega
    · exact h2.uniq g2

