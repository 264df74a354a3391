/-- a bit of a number -/
def md_b (u : Int32) (j : Nat) : Prop := u.toBitVec.toNat.testBit j = true
theorem md_sm : ∀ a, a < 32 → ((nI a &&& 31).toBitVec.smod 32).toNat = a := by decide +kernel
theorem md_bit (u : Int32) {a : Nat} (ha : a < 32) : ((u >>> (nI a &&& 31)) &&& 1) = if u.toBitVec.toNat.testBit a = true then 1 else 0 := by
  have e : (u >>> (nI a &&& 31)).toBitVec.getLsbD 0 = u.toBitVec.toNat.testBit a := by
    rw [Int32.toBitVec_shiftRight, BitVec.getLsbD_sshiftRight', md_sm a ha, if_pos (show a + 0 < 32 by omega), Nat.add_zero, BitVec.testBit_toNat]
    cases u.toBitVec.getLsbD a <;> rfl
  apply Int32.toBitVec_inj.mp
  rw [show ((u >>> (nI a &&& 31)) &&& 1).toBitVec = (u >>> (nI a &&& 31)).toBitVec &&& 1#32 from rfl, BitVec.and_one_eq_setWidth_ofBool_getLsbD, e]
  cases u.toBitVec.toNat.testBit a <;> rfl
theorem md_b0 {u x : Int32} (h0 : 0 ≤ x.toInt) (h1 : x.toInt < 32) : (((u >>> (x &&& 31)) &&& 1).toInt = 0 ∧ ¬ md_b u x.toInt.toNat) ∨ (((u >>> (x &&& 31)) &&& 1).toInt = 1 ∧ md_b u x.toInt.toNat) := by
  obtain ⟨a, ha, rfl⟩ : ∃ a : Nat, a < 32 ∧ x = nI a := ⟨x.toInt.toNat, by omega, i_nI h0⟩
  rw [nI_toInt (by omega), Int.toNat_natCast, md_bit u ha]
  unfold md_b
  cases q : u.toBitVec.toNat.testBit a with
  | true => exact Or.inr ⟨rfl, rfl⟩
  | false => exact Or.inl ⟨rfl, fun z => absurd z (by decide)⟩
theorem md_nI {n : Nat} (hn : n < 4294967296) {j : Nat} : md_b (nI n) j ↔ n.testBit j = true := by
  unfold md_b
  rw [show (nI n).toBitVec.toNat = n % 2 ^ 32 from rfl, Nat.mod_eq_of_lt hn]
theorem md_m1 : ∀ j, j < 32 → (-1 : Int32).toBitVec.getLsbD j = true := by decide +kernel
/-- a bit cleared -/
theorem md_clr {u x : Int32} (h0 : 0 ≤ x.toInt) (h1 : x.toInt < 32) {j : Nat} (hj : j < 32) : md_b (u &&& (((1 : Int32) <<< (x &&& 31)) ^^^ (-1 : Int32))) j ↔ (md_b u j ∧ j ≠ x.toInt.toNat) := by
  obtain ⟨a, ha, rfl⟩ : ∃ a : Nat, a < 32 ∧ x = nI a := ⟨x.toInt.toNat, by omega, i_nI h0⟩
  rw [nI_toInt (by omega), Int.toNat_natCast, pm_sh1 a ha]
  unfold md_b
  rw [BitVec.testBit_toNat, BitVec.testBit_toNat, show (u &&& (nI (2 ^ a) ^^^ (-1 : Int32))).toBitVec = u.toBitVec &&& ((nI (2 ^ a)).toBitVec ^^^ (-1 : Int32).toBitVec) from rfl, BitVec.getLsbD_and, BitVec.getLsbD_xor, md_m1 j hj, show (nI (2 ^ a)).toBitVec = BitVec.ofNat 32 (2 ^ a) from rfl, BitVec.getLsbD_ofNat, decide_eq_true hj, Nat.testBit_two_pow, Bool.true_and]
  by_cases e : a = j
  · rw [decide_eq_true e]
    constructor
    · intro q
      rw [show (true ^^ true) = false from rfl, Bool.and_false] at q
      exact absurd q (by decide)
    · intro q
      exact absurd e.symm q.2
  · rw [decide_eq_false e, show (false ^^ true) = true from rfl, Bool.and_true]
    exact ⟨fun q => ⟨q, fun z => e z.symm⟩, fun q => q.1⟩
theorem md_F.clr {c : Nat → Int32} {W L f m n : Nat} {u x : Int32} {B : Nat → Prop} (hW : 0 < W) (hW2 : W ≤ 20) (h0 : 0 ≤ x.toInt) (h1 : x.toInt < 32) : md_F c W L f m (fun j => md_b u j ∧ j ≠ x.toInt.toNat) B n ↔ md_F c W L f m (md_b (u &&& (((1 : Int32) <<< (x &&& 31)) ^^^ (-1 : Int32)))) B n := ⟨fun h => h.congr hW (fun j hj => ⟨md_clr h0 h1 (by omega), Iff.rfl⟩), fun h => h.congr hW (fun j hj => ⟨(md_clr h0 h1 (by omega)).symm, Iff.rfl⟩)⟩
/-- a bit set -/
theorem md_set {B : Nat} {x : Int32} (hB : B < 1048576) (h0 : 0 ≤ x.toInt) (h1 : x.toInt < 20) : (nI B ||| ((1 : Int32) <<< (x &&& 31))) = nI (B ||| 2 ^ x.toInt.toNat) ∧ B ||| 2 ^ x.toInt.toNat < 1048576 := by
  obtain ⟨a, ha, rfl⟩ : ∃ a : Nat, a < 20 ∧ x = nI a := ⟨x.toInt.toNat, by omega, i_nI h0⟩
  rw [nI_toInt (by omega), Int.toNat_natCast, pm_sh1 a (by omega), nI_or]
  exact ⟨rfl, Nat.or_lt_two_pow (n := 20) hB (Nat.pow_lt_pow_right (by decide) ha)⟩
section PmMi
variable {c : Nat → Int32} {W L n : Nat} {U B : Nat → Prop} {z : Prop} {v : Int}
theorem md_G.runs {F : Nat} (h1 : F < W) (h2 : fs_st c W F) (h3 : ∀ x, x < F → ¬ fs_st c W x) (n : Nat) : md_G c W L U B z n ↔ md_F c W L F W U B n := by
  constructor
  · intro h
    rcases h with ⟨G, g1, g2, g3, g4⟩ | ⟨h0, -⟩
    · have e : G = F := by
        rcases Nat.lt_trichotomy G F with q | q | q
        · exact absurd g2 (h3 G q)
        · exact q
        · exact absurd h2 (g3 F q)
      subst e
      exact g4
    · exact absurd h2 (h0 F h1)
  · intro h
    exact Or.inl ⟨F, h1, h2, h3, h⟩
theorem md_G.plain (h0 : ∀ x, x < W → ¬ fs_st c W x) (n : Nat) : md_G c W L U B z n ↔ md_H c W L U B z W n := by
  constructor
  · intro h
    rcases h with ⟨G, g1, g2, -⟩ | ⟨-, h⟩
    · exact absurd g2 (h0 G g1)
    · exact h
  · intro h
    exact Or.inr ⟨h0, h⟩
/-- a try -/
theorem md_try (hW : 0 < W) (hn : n ≤ 20) (hz : z ↔ ∀ j, j < W → ¬ U j) (hmin : ∀ S b, md_A c W L S b → n ≤ b) (h : md_mn (md_G c W L U B z) v) : (v = n → ∃ S, md_A c W L S n ∧ ∀ j, j < W → (S.testBit j = true → ¬ B j) ∧ (U j → S.testBit j = true)) ∧ (¬ v = n → ¬ ∃ S, md_A c W L S n ∧ ∀ j, j < W → (S.testBit j = true → ¬ B j) ∧ (U j → S.testBit j = true)) := by
  obtain ⟨h1, h2, h3, h4⟩ := h
  refine ⟨fun e => ?_, fun e q => ?_⟩
  · have q := (md_G.iff hW hz _).mp (h4 (by omega))
    rw [show v.toNat = n by omega] at q
    exact q
  · have q1 := h3 n ((md_G.iff hW hz n).mpr q)
    obtain ⟨S, q2, -⟩ := (md_G.iff hW hz _).mp (h4 (by omega))
    have := hmin S _ q2
    omega
theorem md_many (hW : 0 < W) (hW2 : W ≤ 20) (hz : z) (hU : ∀ j, ¬ U j) (hB : ∀ j, ¬ B j) (h : md_mn (md_G c W L U B z) v) : (∃ S, md_A c W L S v.toNat) ∧ (∀ S b, md_A c W L S b → v.toNat ≤ b) ∧ v.toNat ≤ 20 ∧ 0 ≤ v := by
  have hz2 : z ↔ ∀ j, j < W → ¬ U j := ⟨fun _ j _ => hU j, fun _ => hz⟩
  have hall : ∀ S b, md_A c W L S b → v ≤ (b : Int) := fun S b hS => h.2.2.1 b ((md_G.iff hW hz2 b).mpr ⟨S, hS, fun j _ => ⟨fun _ => hB j, fun q => absurd q (hU j)⟩⟩)
  obtain ⟨S0, hS0⟩ := md_A.ex (c := c) (L := L) hW
  have hv := hall S0 W hS0
  obtain ⟨S, hS, -⟩ := (md_G.iff hW hz2 _).mp (h.2.2.2 (by omega))
  refine ⟨⟨S, hS⟩, fun T b hT => ?_, by have := h.1; omega, h.1⟩
  have := hall T b hT
  omega
end PmMi
theorem md_step {c : Nat → Int32} {W L n M B : Nat} {m b x v : Int32} (hW : 0 < W) (hW2 : W ≤ 20) (hn : n ≤ 20) (hm : m = nI M) (hb : b = nI B) (hB : B < 1048576) (x0 : 0 ≤ x.toInt) (x1 : x.toInt < (W : Int)) (hmin : ∀ S d, md_A c W L S d → n ≤ d) (hg : md_g c W L n (x.toInt + 1).toNat M B) (h : md_mn (md_G c W L (md_b m) (md_b (b ||| ((1 : Int32) <<< (x &&& 31)))) (m.toInt = 0)) v.toInt) : (v.toInt = (n : Int) → ∃ B', (b ||| ((1 : Int32) <<< (x &&& 31))) = nI B' ∧ B' < 1048576 ∧ md_g c W L n x.toInt.toNat M B') ∧ (¬ v.toInt = (n : Int) → ∃ M', (m ||| ((1 : Int32) <<< (x &&& 31))) = nI M' ∧ md_g c W L n x.toInt.toNat M' B) := by
  subst hm
  subst hb
  rw [show (x.toInt + 1).toNat = x.toInt.toNat + 1 by omega] at hg
  have hM : M < 1048576 := Nat.lt_of_lt_of_le hg.1 (show 2 ^ W ≤ 2 ^ 20 from Nat.pow_le_pow_right (by decide) hW2)
  obtain ⟨s1, s2⟩ := md_set hB x0 (by omega)
  obtain ⟨s3, s4⟩ := md_set hM x0 (by omega)
  have hU : ∀ j, md_b (nI M) j ↔ M.testBit j = true := fun j => md_nI (by omega)
  have hV : ∀ j, md_b (nI B ||| ((1 : Int32) <<< (x &&& 31))) j ↔ (B.testBit j = true ∨ j = x.toInt.toNat) := fun j => by
    rw [s1, md_nI (by omega), Nat.testBit_or, Nat.testBit_two_pow, Bool.or_eq_true]
    exact or_congr Iff.rfl ⟨fun q => (of_decide_eq_true q).symm, fun q => decide_eq_true q.symm⟩
  have hz : (nI M).toInt = 0 ↔ ∀ j, j < W → ¬ md_b (nI M) j := by
    rw [nI_toInt (by omega)]
    constructor
    · intro q j _
      rw [hU, show M = 0 by omega, Nat.zero_testBit]
      decide
    · intro q
      rw [show M = 0 from Nat.eq_of_testBit_eq (fun j => by
        rw [Nat.zero_testBit]
        by_cases hj : j < W
        · have q2 := q j hj
          rw [hU] at q2
          cases q3 : M.testBit j with
          | false => rfl
          | true => exact absurd q3 q2
        · exact Nat.testBit_lt_two_pow (Nat.lt_of_lt_of_le hg.1 (Nat.pow_le_pow_right (by decide) (by omega))))]
      rfl
  obtain ⟨t1, t2⟩ := md_try hW hn hz hmin h
  have hc : ∀ S : Nat, (∀ j, j < W → (S.testBit j = true → ¬ md_b (nI B ||| ((1 : Int32) <<< (x &&& 31))) j) ∧ (md_b (nI M) j → S.testBit j = true)) ↔ (∀ j, j < W → (S.testBit j = true → ¬ (B.testBit j = true ∨ j = x.toInt.toNat)) ∧ (M.testBit j = true → S.testBit j = true)) := fun S => ⟨fun q j hj => ⟨fun s r => (q j hj).1 s ((hV j).mpr r), fun s => (q j hj).2 ((hU j).mpr s)⟩, fun q j hj => ⟨fun s r => (q j hj).1 s ((hV j).mp r), fun s => (q j hj).2 ((hU j).mp s)⟩⟩
  refine ⟨fun e => ⟨_, s1, s2, ?_⟩, fun e => ⟨_, s3, ?_⟩⟩
  · obtain ⟨S, hS, q⟩ := t1 e
    refine md_g.yes hW (by omega) hg (fun j _ => ?_) ⟨S, hS, (hc S).mp q⟩
    rw [Nat.testBit_or, Nat.testBit_two_pow, Bool.or_eq_true]
    exact or_congr Iff.rfl ⟨fun q => (of_decide_eq_true q).symm, fun q => decide_eq_true q.symm⟩
  · refine md_g.no hW (by omega) hg (fun q => t2 e ?_)
    obtain ⟨S, hS, q⟩ := q
    exact ⟨S, hS, (hc S).mpr q⟩
set_option maxRecDepth 100000 in
theorem W_X12_fewestFrom_59_m {sc : pm_S} {w w0 : pm_W} {gi : Nat → Int32} {ga : Nat → List Int32} (y : Int32) (f : Int32) (m : Int32) (u : Int32) (b : Int32) (p0 : m.toInt ≤ 20) (p1 : 0 ≤ m.toInt) (p2 : f.toInt ≤ 20) (p3 : 0 ≤ f.toInt) (p4 : y.toInt ≤ 19) (p5 : 0 ≤ y.toInt) (hR : pm_Rg gi ga) (hI : pm_IM gi ga w) (hh : pm_lo w0 w) : pm_Mt sc 1 143 11 [.ref 59, .int y, .int f, .int m, .int u, .int b] w (fun rv w' => pm_wI (fun v => 0 ≤ v.toInt ∧ v.toInt ≤ 99 ∧ md_mn (md_F (fs_c (ga 15) y.toInt.toNat) (gi 0).toInt.toNat (gi 2).toInt.toNat f.toInt.toNat m.toInt.toNat (md_b u) (md_b b)) v.toInt) rv ∧ pm_IM gi ga w' ∧ pm_lo w0 w') := by
  intro d hd
  obtain ⟨g0a, g0b⟩ := hR.n0
  obtain ⟨g1a, g1b⟩ := hR.n1
  obtain ⟨g2a, g2b⟩ := hR.n2
  obtain ⟨g3a, g3b⟩ := hR.n3
  obtain ⟨g4a, g4b⟩ := hR.n4
  obtain ⟨g5a, g5b⟩ := hR.n5
  obtain ⟨g6a, g6b⟩ := hR.n6
  obtain ⟨g7a, g7b⟩ := hR.n7
  obtain ⟨g8a, g8b⟩ := hR.n8
  have k0 : (0 : Int32).toInt = 0 := by decide
  have k1 : (1 : Int32).toInt = 1 := by decide
  have k21 : (21 : Int32).toInt = 21 := by decide
  have k99 : (99 : Int32).toInt = 99 := by decide
  show pm_V sc d 143 0 [.ref 59, .int y, .int f, .int m, .int u, .int b, .null, .null, .null, .null, .null] [] w _
  refine v_iconst (v := 0) rfl (by decide) ?_
  refine v_istore rfl (Nat.le_of_ble_eq_true rfl) ?_
  obtain ⟨xs2, xs2l, h1⟩ := hI.2.1 82 (by decide) (by decide)
  obtain ⟨xs4, xs4l, h3⟩ := hI.2.1 83 (by decide) (by decide)
  have L13 : ∀ (n13 : Nat) (l5 : Int32) (w6 : pm_W) (xs10 : List Int32) (xs12 : List Int32), pm_IM gi ga w6 → pm_lo w0 w6 → w6[82]? = some (.inl (0, .inl xs10)) → xs10.length = 21 → w6[83]? = some (.inl (0, .inl xs12)) → xs12.length = 21 → 0 ≤ l5.toInt → l5.toInt ≤ 21 → (∀ j, j < l5.toInt.toNat → sq_lk xs10 j = if j = 0 then 0 else 99) → (21 - l5.toInt).toNat < n13 → pm_V sc d 143 3 [.ref 59, .int y, .int f, .int m, .int u, .int b, .int l5, .null, .null, .null, .null] [] w6 (fun rv w' => pm_wI (fun v => 0 ≤ v.toInt ∧ v.toInt ≤ 99 ∧ md_mn (md_F (fs_c (ga 15) y.toInt.toNat) (gi 0).toInt.toNat (gi 2).toInt.toNat f.toInt.toNat m.toInt.toNat (md_b u) (md_b b)) v.toInt) rv ∧ pm_IM gi ga w' ∧ pm_lo w0 w') := by
    intro n13
    induction n13 with
    | zero => intro l5 w6 xs10 xs12 hI7 hh8 h9 xs10l h11 xs12l t15 t16 t17 hm14; exact absurd hm14 (Nat.not_lt_zero _)
    | succ n13 ih3_13 =>
      intro l5 w6 xs10 xs12 hI7 hh8 h9 xs10l h11 xs12l t15 t16 t17 hm14
      refine v_iload rfl rfl ?_
      refine v_bipush (v := 21) rfl (by decide) ?_
      refine r_icmp_ge rfl (fun t18 => ?_) (fun t18 => ?_)
      · refine v_iconst (v := 0) rfl (by decide) ?_
        refine v_istore rfl (Nat.le_of_ble_eq_true rfl) ?_
        have L31 : ∀ (n31 : Nat) (l19 : Int32) (u20 : Value) (u21 : Value) (u22 : Value) (u23 : Value) (w24 : pm_W) (xs28 : List Int32) (xs30 : List Int32), pm_IM gi ga w24 → pm_lo w0 w24 → w24[82]? = some (.inl (0, .inl xs28)) → xs28.length = 21 → w24[83]? = some (.inl (0, .inl xs30)) → xs30.length = 21 → 0 ≤ l19.toInt → l19.toInt ≤ 20 → (l19.toInt ≤ m.toInt) → (md_rw (md_N (gi 2).toInt.toNat (fun j => fs_st (fs_c (ga 15) y.toInt.toNat) (gi 0).toInt.toNat (md_wk (gi 0).toInt.toNat f.toInt.toNat j)) (fun j => ¬ md_b b (md_wk (gi 0).toInt.toNat f.toInt.toNat j)) (fun j => md_b u (md_wk (gi 0).toInt.toNat f.toInt.toNat j)) (md_wk (gi 0).toInt.toNat f.toInt.toNat) l19.toInt.toNat) (sq_lk xs28)) → (20 - l19.toInt).toNat < n31 → pm_V sc d 143 37 [.ref 59, .int y, .int f, .int m, .int u, .int b, .int l19, u20, u21, u22, u23] [] w24 (fun rv w' => pm_wI (fun v => 0 ≤ v.toInt ∧ v.toInt ≤ 99 ∧ md_mn (md_F (fs_c (ga 15) y.toInt.toNat) (gi 0).toInt.toNat (gi 2).toInt.toNat f.toInt.toNat m.toInt.toNat (md_b u) (md_b b)) v.toInt) rv ∧ pm_IM gi ga w' ∧ pm_lo w0 w') := by
          intro n31
          induction n31 with
          | zero => intro l19 u20 u21 u22 u23 w24 xs28 xs30 hI25 hh26 h27 xs28l h29 xs30l t33 t34 t35 t36 hm32; exact absurd hm32 (Nat.not_lt_zero _)
          | succ n31 ih37_31 =>
            intro l19 u20 u21 u22 u23 w24 xs28 xs30 hI25 hh26 h27 xs28l h29 xs30l t33 t34 t35 t36 hm32
            refine v_iload rfl rfl ?_
            refine v_iload_n rfl rfl ?_
            refine r_icmp_ge rfl (fun t37 => ?_) (fun t37 => ?_)
            · refine v_bipush (v := 99) rfl (by decide) ?_
              refine v_istore rfl (Nat.le_of_ble_eq_true rfl) ?_
              refine v_iconst (v := 0) rfl (by decide) ?_
              refine v_istore rfl (Nat.le_of_ble_eq_true rfl) ?_
              have L40 : ∀ (n40 : Nat) (l38 : Int32) (l39 : Int32), 0 ≤ l38.toInt → l38.toInt ≤ 99 → 0 ≤ l39.toInt → l39.toInt ≤ 21 → (l39.toInt ≤ (gi 2).toInt + 1) → (md_mn (md_F1 (gi 2).toInt.toNat (fun j => fs_st (fs_c (ga 15) y.toInt.toNat) (gi 0).toInt.toNat (md_wk (gi 0).toInt.toNat f.toInt.toNat j)) (fun j => ¬ md_b b (md_wk (gi 0).toInt.toNat f.toInt.toNat j)) (fun j => md_b u (md_wk (gi 0).toInt.toNat f.toInt.toNat j)) (md_wk (gi 0).toInt.toNat f.toInt.toNat) m.toInt.toNat l39.toInt.toNat) l38.toInt) → (21 - l39.toInt).toNat < n40 → pm_V sc d 143 284 [.ref 59, .int y, .int f, .int m, .int u, .int b, .int l38, .int l39, u21, u22, u23] [] w24 (fun rv w' => pm_wI (fun v => 0 ≤ v.toInt ∧ v.toInt ≤ 99 ∧ md_mn (md_F (fs_c (ga 15) y.toInt.toNat) (gi 0).toInt.toNat (gi 2).toInt.toNat f.toInt.toNat m.toInt.toNat (md_b u) (md_b b)) v.toInt) rv ∧ pm_IM gi ga w' ∧ pm_lo w0 w') := by
                intro n40
                induction n40 with
                | zero => intro l38 l39 t42 t43 t44 t45 t46 t47 hm41; exact absurd hm41 (Nat.not_lt_zero _)
                | succ n40 ih284_40 =>
                  intro l38 l39 t42 t43 t44 t45 t46 t47 hm41
                  refine v_iload rfl rfl ?_
                  refine v_aload_n rfl rfl ?_
                  obtain ⟨v49, v50, v51, v52, v53, v54, v55, v56, ⟨v49z, v49e⟩, ⟨⟨v50a, v50b⟩, v50e⟩, ⟨⟨v51a, v51b⟩, v51e⟩, ⟨v53a, v53b⟩, ⟨v56a, v56b⟩, h48⟩ := hI25.2.1 59 (by decide) (by decide)
                  have v49z := v49z.imp i_eq.mp i_eq.mp
                  rw [i_0, i_1] at v49z
                  refine v_get rfl h48 rfl ?_
                  refine r_icmp_gt rfl (fun t57 => ?_) (fun t57 => ?_)
                  · refine v_iload rfl rfl ?_
                    exact v_iret rfl ⟨⟨_, rfl, (by omega), (by omega), (by exact t47.congr (fun c => md_F1.all (m := l39.toInt.toNat) (by omega)))⟩, hI25, hh26⟩
                  · refine v_aload_n rfl rfl ?_
                    refine v_get rfl h48 rfl ?_
                    refine v_iload rfl rfl ?_
                    refine r_iaload rfl h27 xs28l (by omega) (by omega) (fun z58 z58m z58g => ?_)
                    have z58f := t36 l39.toInt.toNat (by omega)
                    rw [show sq_lk xs28 l39.toInt.toNat = z58.toInt from (congrArg Int32.toInt z58g).symm, show l19.toInt.toNat = m.toInt.toNat by omega] at z58f
                    have z58a := z58f.1
                    have z58b := z58f.2.1
                    refine v_iload rfl rfl ?_
                    refine r_icmp_ge rfl (fun t59 => ?_) (fun t59 => ?_)
                    · refine v_iload rfl rfl ?_
                      refine v_istore rfl (Nat.le_of_ble_eq_true rfl) ?_
                      refine r_iinc rfl rfl (by decide) (by omega) (by omega) (fun z60 z60e => ?_)
                      refine v_goto rfl ?_
                      exact ih284_40 l38 z60 (by omega) (by omega) (by omega) (by omega) (by omega) (by
                          rw [show z60.toInt.toNat = l39.toInt.toNat + 1 by omega]
                          exact md_mn.keep 0 t47 z58f (fun c => md_F1.s) (by omega)) (by omega)
                    · refine v_aload_n rfl rfl ?_
                      refine v_get rfl h48 rfl ?_
                      refine v_iload rfl rfl ?_
                      refine r_iaload rfl h27 xs28l (by omega) (by omega) (fun z61 z61m z61g => ?_)
                      have z61e : z61.toInt = z58.toInt := congrArg Int32.toInt (z61g.trans z58g.symm)
                      refine v_goto rfl ?_
                      refine v_istore rfl (Nat.le_of_ble_eq_true rfl) ?_
                      refine r_iinc rfl rfl (by decide) (by omega) (by omega) (fun z62 z62e => ?_)
                      refine v_goto rfl ?_
                      exact ih284_40 z61 z62 (by omega) (by omega) (by omega) (by omega) (by omega) (by
                          rw [show z62.toInt.toNat = l39.toInt.toNat + 1 by omega]
                          have q := md_mn.take 0 t47 z58f (fun c => md_F1.s) (by omega)
                          rw [show z61.toInt = z58.toInt + ((0 : Nat) : Int) by omega]
                          exact q) (by omega)
              exact L40 _ (99 : Int32) (0 : Int32) (by omega) (by omega) (by omega) (by omega) (by omega) (by
                  rw [k99]
                  exact md_F1.z) (Nat.lt_add_one _)
            · refine v_iload_n rfl rfl ?_
              refine v_iload rfl rfl ?_
              refine r_iadd rfl (by omega) (by omega) (fun z63 z63e => ?_)
              skip
              refine v_aload_n rfl rfl ?_
              obtain ⟨v65, v66, v67, v68, v69, v70, v71, v72, ⟨v65z, v65e⟩, ⟨⟨v66a, v66b⟩, v66e⟩, ⟨⟨v67a, v67b⟩, v67e⟩, ⟨v69a, v69b⟩, ⟨v72a, v72b⟩, h64⟩ := hI25.2.1 59 (by decide) (by decide)
              have v65z := v65z.imp i_eq.mp i_eq.mp
              rw [i_0, i_1] at v65z
              refine v_get rfl h64 rfl ?_
              refine r_irem rfl (by omega) (by omega) (fun z73 z73m z73a z73b z73c => ?_)
              have z73k : z73.toInt.toNat = md_wk (gi 0).toInt.toNat f.toInt.toNat l19.toInt.toNat := by
                have q := j_em z73m (by omega) (by omega)
                rw [show z63.toInt.toNat = f.toInt.toNat + l19.toInt.toNat by omega] at q
                exact q
              clear z73m
              refine v_istore rfl (Nat.le_of_ble_eq_true rfl) ?_
              have K75 : ∀ (l74 : Int32), 0 ≤ l74.toInt → l74.toInt ≤ 1 → ((l74.toInt = 1 ∧ fs_st (fs_c (ga 15) y.toInt.toNat) (gi 0).toInt.toNat (md_wk (gi 0).toInt.toNat f.toInt.toNat l19.toInt.toNat)) ∨ (l74.toInt = 0 ∧ ¬ fs_st (fs_c (ga 15) y.toInt.toNat) (gi 0).toInt.toNat (md_wk (gi 0).toInt.toNat f.toInt.toNat l19.toInt.toNat))) → pm_V sc d 143 90 [.ref 59, .int y, .int f, .int m, .int u, .int b, .int l19, .int z73, .int l74, u22, u23] [] w24 (fun rv w' => pm_wI (fun v => 0 ≤ v.toInt ∧ v.toInt ≤ 99 ∧ md_mn (md_F (fs_c (ga 15) y.toInt.toNat) (gi 0).toInt.toNat (gi 2).toInt.toNat f.toInt.toNat m.toInt.toNat (md_b u) (md_b b)) v.toInt) rv ∧ pm_IM gi ga w' ∧ pm_lo w0 w') := by
                intro l74 t76 t77 t78
                refine v_iconst (v := 0) rfl (by decide) ?_
                refine v_istore rfl (Nat.le_of_ble_eq_true rfl) ?_
                have L86 : ∀ (n86 : Nat) (l79 : Int32) (w80 : pm_W) (xs85 : List Int32), pm_IM gi ga w80 → pm_lo w0 w80 → w80[82]? = some (.inl (0, .inl xs28)) → w80[83]? = some (.inl (0, .inl xs85)) → xs85.length = 21 → 0 ≤ l79.toInt → l79.toInt ≤ 21 → (∀ j, j < l79.toInt.toNat → sq_lk xs85 j = 99) → (21 - l79.toInt).toNat < n86 → pm_V sc d 143 93 [.ref 59, .int y, .int f, .int m, .int u, .int b, .int l19, .int z73, .int l74, .int l79, u23] [] w80 (fun rv w' => pm_wI (fun v => 0 ≤ v.toInt ∧ v.toInt ≤ 99 ∧ md_mn (md_F (fs_c (ga 15) y.toInt.toNat) (gi 0).toInt.toNat (gi 2).toInt.toNat f.toInt.toNat m.toInt.toNat (md_b u) (md_b b)) v.toInt) rv ∧ pm_IM gi ga w' ∧ pm_lo w0 w') := by
                  intro n86
                  induction n86 with
                  | zero => intro l79 w80 xs85 hI81 hh82 h83 h84 xs85l t88 t89 t90 hm87; exact absurd hm87 (Nat.not_lt_zero _)
                  | succ n86 ih93_86 =>
                    intro l79 w80 xs85 hI81 hh82 h83 h84 xs85l t88 t89 t90 hm87
                    refine v_iload rfl rfl ?_
                    refine v_bipush (v := 21) rfl (by decide) ?_
                    refine r_icmp_ge rfl (fun t91 => ?_) (fun t91 => ?_)
                    · refine v_iconst (v := 0) rfl (by decide) ?_
                      refine v_istore rfl (Nat.le_of_ble_eq_true rfl) ?_
                      have L100 : ∀ (n100 : Nat) (l92 : Int32) (u93 : Value) (w94 : pm_W) (xs99 : List Int32), pm_IM gi ga w94 → pm_lo w0 w94 → w94[82]? = some (.inl (0, .inl xs28)) → w94[83]? = some (.inl (0, .inl xs99)) → xs99.length = 21 → 0 ≤ l92.toInt → l92.toInt ≤ 21 → (l92.toInt ≤ (gi 2).toInt + 1) → (md_rw (md_T (gi 2).toInt.toNat (fun j => fs_st (fs_c (ga 15) y.toInt.toNat) (gi 0).toInt.toNat (md_wk (gi 0).toInt.toNat f.toInt.toNat j)) (fun j => ¬ md_b b (md_wk (gi 0).toInt.toNat f.toInt.toNat j)) (fun j => md_b u (md_wk (gi 0).toInt.toNat f.toInt.toNat j)) (md_wk (gi 0).toInt.toNat f.toInt.toNat) l19.toInt.toNat l92.toInt.toNat l92.toInt.toNat) (sq_lk xs99)) → (21 - l92.toInt).toNat < n100 → pm_V sc d 143 118 [.ref 59, .int y, .int f, .int m, .int u, .int b, .int l19, .int z73, .int l74, .int l92, u93] [] w94 (fun rv w' => pm_wI (fun v => 0 ≤ v.toInt ∧ v.toInt ≤ 99 ∧ md_mn (md_F (fs_c (ga 15) y.toInt.toNat) (gi 0).toInt.toNat (gi 2).toInt.toNat f.toInt.toNat m.toInt.toNat (md_b u) (md_b b)) v.toInt) rv ∧ pm_IM gi ga w' ∧ pm_lo w0 w') := by
                        intro n100
                        induction n100 with
                        | zero => intro l92 u93 w94 xs99 hI95 hh96 h97 h98 xs99l t102 t103 t104 t105 hm101; exact absurd hm101 (Nat.not_lt_zero _)
                        | succ n100 ih118_100 =>
                          intro l92 u93 w94 xs99 hI95 hh96 h97 h98 xs99l t102 t103 t104 t105 hm101
                          refine v_iload rfl rfl ?_
                          refine v_aload_n rfl rfl ?_
                          obtain ⟨v107, v108, v109, v110, v111, v112, v113, v114, ⟨v107z, v107e⟩, ⟨⟨v108a, v108b⟩, v108e⟩, ⟨⟨v109a, v109b⟩, v109e⟩, ⟨v111a, v111b⟩, ⟨v114a, v114b⟩, h106⟩ := hI95.2.1 59 (by decide) (by decide)
                          have v107z := v107z.imp i_eq.mp i_eq.mp
                          rw [i_0, i_1] at v107z
                          refine v_get rfl h106 rfl ?_
                          refine r_icmp_gt rfl (fun t115 => ?_) (fun t115 => ?_)
                          · refine v_iconst (v := 0) rfl (by decide) ?_
                            refine v_istore rfl (Nat.le_of_ble_eq_true rfl) ?_
                            have L123 : ∀ (n123 : Nat) (l116 : Int32) (w117 : pm_W) (xs122 : List Int32), pm_IM gi ga w117 → pm_lo w0 w117 → w117[83]? = some (.inl (0, .inl xs99)) → w117[82]? = some (.inl (0, .inl xs122)) → xs122.length = 21 → 0 ≤ l116.toInt → l116.toInt ≤ 21 → (∀ j, j < l116.toInt.toNat → sq_lk xs122 j = sq_lk xs99 j) → (21 - l116.toInt).toNat < n123 → pm_V sc d 143 244 [.ref 59, .int y, .int f, .int m, .int u, .int b, .int l19, .int z73, .int l74, .int l116, u93] [] w117 (fun rv w' => pm_wI (fun v => 0 ≤ v.toInt ∧ v.toInt ≤ 99 ∧ md_mn (md_F (fs_c (ga 15) y.toInt.toNat) (gi 0).toInt.toNat (gi 2).toInt.toNat f.toInt.toNat m.toInt.toNat (md_b u) (md_b b)) v.toInt) rv ∧ pm_IM gi ga w' ∧ pm_lo w0 w') := by
                              intro n123
                              induction n123 with
                              | zero => intro l116 w117 xs122 hI118 hh119 h120 h121 xs122l t125 t126 t127 hm124; exact absurd hm124 (Nat.not_lt_zero _)
                              | succ n123 ih244_123 =>
                                intro l116 w117 xs122 hI118 hh119 h120 h121 xs122l t125 t126 t127 hm124
                                refine v_iload rfl rfl ?_
                                refine v_bipush (v := 21) rfl (by decide) ?_
                                refine r_icmp_ge rfl (fun t128 => ?_) (fun t128 => ?_)
                                · refine r_iinc rfl rfl (by decide) (by omega) (by omega) (fun z129 z129e => ?_)
                                  refine v_goto rfl ?_
                                  exact ih37_31 z129 (.int z73) (.int l74) (.int l116) (u93) w117 xs122 xs99 hI118 hh119 h121 xs122l h120 xs99l (by omega) (by omega) (by omega) (by
                                      rw [show z129.toInt.toNat = l19.toInt.toNat + 1 by omega]
                                      exact md_rw.on t105 (by omega) (fun j hj => t127 j (by omega))) (by omega)
                                · refine v_aload_n rfl rfl ?_
                                  obtain ⟨v131, v132, v133, v134, v135, v136, v137, v138, ⟨v131z, v131e⟩, ⟨⟨v132a, v132b⟩, v132e⟩, ⟨⟨v133a, v133b⟩, v133e⟩, ⟨v135a, v135b⟩, ⟨v138a, v138b⟩, h130⟩ := hI118.2.1 59 (by decide) (by decide)
                                  have v131z := v131z.imp i_eq.mp i_eq.mp
                                  rw [i_0, i_1] at v131z
                                  refine v_get rfl h130 rfl ?_
                                  refine v_iload rfl rfl ?_
                                  refine v_aload_n rfl rfl ?_
                                  refine v_get rfl h130 rfl ?_
                                  refine v_iload rfl rfl ?_
                                  refine r_iaload rfl h120 xs99l (by omega) (by omega) (fun z139 z139m z139g => ?_)
                                  skip
                                  refine r_iastx rfl h121 xs122l (by omega) (by omega) (fun ys140 ys140l ys140m ys140g ys140n => ?_)
                                  refine r_gen (w' := w117.set 82 (.inl (0, .inl ys140))) (fun w141 e142 => ?_)
                                  have hI143 : pm_IM gi ga w141 := by rw [e142]; exact hI118.set 82 (by decide) (by decide) (by decide) (by decide) ⟨ys140, ys140l, rfl⟩
                                  have hh144 : pm_lo w0 w141 := by rw [e142]; exact hh119.set (by decide) _
                                  have h145 := r_get_ne e142 (show 82 ≠ 83 by decide) h120
                                  have h146 := r_get_ne e142 (show 82 ≠ 59 by decide) h130
                                  have h147 := r_get_eq e142 h121
                                  refine r_iinc rfl rfl (by decide) (by omega) (by omega) (fun z148 z148e => ?_)
                                  refine v_goto rfl ?_
                                  exact ih244_123 z148 w141 ys140 hI143 hh144 h145 h147 ys140l (by omega) (by omega) (by
                                      intro j hj
                                      by_cases e : j = l116.toInt.toNat
                                      · rw [e]
                                        show (ys140.getD l116.toInt.toNat 0).toInt = (xs99.getD l116.toInt.toNat 0).toInt
                                        rw [ys140g, z139g]
                                      · rw [show sq_lk ys140 j = sq_lk xs122 j from congrArg Int32.toInt (ys140n j e)]
                                        exact t127 j (by omega)) (by omega)
                            exact L123 _ (0 : Int32) w94 xs28 hI95 hh96 h98 h97 xs28l (by omega) (by omega) (by intro j hj; rw [show (0 : Int32).toInt.toNat = 0 from rfl] at hj; omega) (Nat.lt_add_one _)
                          · refine v_iload rfl rfl ?_
                            refine r_if_eq rfl (fun t149 => ?_) (fun t149 => ?_)
                            · refine v_iload rfl rfl ?_
                              refine v_iconst (v := 1) rfl (by decide) ?_
                              refine r_iadd rfl (by omega) (by omega) (fun z150 z150e => ?_)
                              refine v_istore rfl (Nat.le_of_ble_eq_true rfl) ?_
                              have K157 : ∀ (w151 : pm_W) (xs156 : List Int32), pm_IM gi ga w151 → pm_lo w0 w151 → w151[82]? = some (.inl (0, .inl xs28)) → w151[83]? = some (.inl (0, .inl xs156)) → xs156.length = 21 → (md_rw (md_T (gi 2).toInt.toNat (fun j => fs_st (fs_c (ga 15) y.toInt.toNat) (gi 0).toInt.toNat (md_wk (gi 0).toInt.toNat f.toInt.toNat j)) (fun j => ¬ md_b b (md_wk (gi 0).toInt.toNat f.toInt.toNat j)) (fun j => md_b u (md_wk (gi 0).toInt.toNat f.toInt.toNat j)) (md_wk (gi 0).toInt.toNat f.toInt.toNat) l19.toInt.toNat (l92.toInt.toNat + 1) l92.toInt.toNat) (sq_lk xs156)) → pm_V sc d 143 185 [.ref 59, .int y, .int f, .int m, .int u, .int b, .int l19, .int z73, .int l74, .int l92, .int z150] [] w151 (fun rv w' => pm_wI (fun v => 0 ≤ v.toInt ∧ v.toInt ≤ 99 ∧ md_mn (md_F (fs_c (ga 15) y.toInt.toNat) (gi 0).toInt.toNat (gi 2).toInt.toNat f.toInt.toNat m.toInt.toNat (md_b u) (md_b b)) v.toInt) rv ∧ pm_IM gi ga w' ∧ pm_lo w0 w') := by
                                intro w151 xs156 hI152 hh153 h154 h155 xs156l t158
                                refine v_iload rfl rfl ?_
                                refine v_iload rfl rfl ?_
                                refine v_ishr rfl ?_
                                refine v_iconst (v := 1) rfl (by decide) ?_
                                refine v_iand rfl ?_
                                have hb191 := md_b0 (u := u) (x := z73) (by omega) (by omega)
                                rw [z73k] at hb191
                                refine r_if_ne rfl (fun t159 => ?_) (fun t159 => ?_)
                                · refine r_iinc rfl rfl (by decide) (by omega) (by omega) (fun z160 z160e => ?_)
                                  refine v_goto rfl ?_
                                  exact ih118_100 z160 (.int z150) w151 xs156 hI152 hh153 h154 h155 xs156l (by omega) (by omega) (by omega) (by
                                      rw [show z160.toInt.toNat = l92.toInt.toNat + 1 by omega]
                                      exact md_p2n t158 (go := z150.toInt.toNat) (by rcases t78 with g | g; (exact Or.inl ⟨g.2, by omega⟩); exact Or.inr ⟨g.2, by omega⟩) (by
                                        rcases hb191 with g | g
                                        · exact fun q => absurd q.2 (by omega)
                                        · exact fun q => q.1 g.2)) (by omega)
                                · refine v_iload rfl rfl ?_
                                  refine v_aload_n rfl rfl ?_
                                  obtain ⟨v162, v163, v164, v165, v166, v167, v168, v169, ⟨v162z, v162e⟩, ⟨⟨v163a, v163b⟩, v163e⟩, ⟨⟨v164a, v164b⟩, v164e⟩, ⟨v166a, v166b⟩, ⟨v169a, v169b⟩, h161⟩ := hI152.2.1 59 (by decide) (by decide)
                                  have v162z := v162z.imp i_eq.mp i_eq.mp
                                  rw [i_0, i_1] at v162z
                                  refine v_get rfl h161 rfl ?_
                                  refine r_icmp_gt rfl (fun t170 => ?_) (fun t170 => ?_)
                                  · refine r_iinc rfl rfl (by decide) (by omega) (by omega) (fun z171 z171e => ?_)
                                    refine v_goto rfl ?_
                                    exact ih118_100 z171 (.int z150) w151 xs156 hI152 hh153 h154 h155 xs156l (by omega) (by omega) (by omega) (by
                                        rw [show z171.toInt.toNat = l92.toInt.toNat + 1 by omega]
                                        exact md_p2n t158 (go := z150.toInt.toNat) (by rcases t78 with g | g; (exact Or.inl ⟨g.2, by omega⟩); exact Or.inr ⟨g.2, by omega⟩) (by
                                          rcases hb191 with g | g
                                          · exact fun q => absurd q.2 (by omega)
                                          · exact fun q => q.1 g.2)) (by omega)
                                  · refine v_aload_n rfl rfl ?_
                                    refine v_get rfl h161 rfl ?_
                                    refine v_iload rfl rfl ?_
                                    refine r_iaload rfl h154 xs28l (by omega) (by omega) (fun z172 z172m z172g => ?_)
                                    have z172f := t36 l92.toInt.toNat (by omega)
                                    rw [show sq_lk xs28 l92.toInt.toNat = z172.toInt from (congrArg Int32.toInt z172g).symm] at z172f
                                    have z172a := z172f.1
                                    have z172b := z172f.2.1
                                    refine v_aload_n rfl rfl ?_
                                    refine v_get rfl h161 rfl ?_
                                    refine v_iload rfl rfl ?_
                                    refine r_iaload rfl h155 xs156l (by omega) (by omega) (fun z173 z173m z173g => ?_)
                                    skip
                                    refine r_icmp_ge rfl (fun t174 => ?_) (fun t174 => ?_)
                                    · refine r_iinc rfl rfl (by decide) (by omega) (by omega) (fun z175 z175e => ?_)
                                      refine v_goto rfl ?_
                                      exact ih118_100 z175 (.int z150) w151 xs156 hI152 hh153 h154 h155 xs156l (by omega) (by omega) (by omega) (by
                                          rw [show z175.toInt.toNat = l92.toInt.toNat + 1 by omega]
                                          exact md_p2k t158 (go := z150.toInt.toNat) (by rcases t78 with g | g; (exact Or.inl ⟨g.2, by omega⟩); exact Or.inr ⟨g.2, by omega⟩) (by rcases hb191 with g | g; (exact g.2); omega) (by omega) z172f (by show ¬ z172.toInt < (xs156.getD z150.toInt.toNat 0).toInt; rw [← z173g]; omega)) (by omega)
                                    · refine v_aload_n rfl rfl ?_
                                      refine v_get rfl h161 rfl ?_
                                      refine v_iload rfl rfl ?_
                                      refine v_aload_n rfl rfl ?_
                                      refine v_get rfl h161 rfl ?_
                                      refine v_iload rfl rfl ?_
                                      refine r_iaload rfl h154 xs28l (by omega) (by omega) (fun z176 z176m z176g => ?_)
                                      have z176e : z176.toInt = z172.toInt := congrArg Int32.toInt (z176g.trans z172g.symm)
                                      refine r_iastx rfl h155 xs156l (by omega) (by omega) (fun ys177 ys177l ys177m ys177g ys177n => ?_)
                                      refine r_gen (w' := w151.set 83 (.inl (0, .inl ys177))) (fun w178 e179 => ?_)
                                      have hI180 : pm_IM gi ga w178 := by rw [e179]; exact hI152.set 83 (by decide) (by decide) (by decide) (by decide) ⟨ys177, ys177l, rfl⟩
                                      have hh181 : pm_lo w0 w178 := by rw [e179]; exact hh153.set (by decide) _
                                      have h182 := r_get_ne e179 (show 83 ≠ 82 by decide) h154
                                      have h183 := r_get_ne e179 (show 83 ≠ 59 by decide) h161
                                      have h184 := r_get_eq e179 h155
                                      refine r_iinc rfl rfl (by decide) (by omega) (by omega) (fun z185 z185e => ?_)
                                      refine v_goto rfl ?_
                                      exact ih118_100 z185 (.int z150) w178 ys177 hI180 hh181 h182 h184 ys177l (by omega) (by omega) (by omega) (by
                                          rw [show z185.toInt.toNat = l92.toInt.toNat + 1 by omega]
                                          exact md_p2t t158 (go := z150.toInt.toNat) (by rcases t78 with g | g; (exact Or.inl ⟨g.2, by omega⟩); exact Or.inr ⟨g.2, by omega⟩) (by rcases hb191 with g | g; (exact g.2); omega) (by omega) z172f (by show z172.toInt < (xs156.getD z150.toInt.toNat 0).toInt; rw [← z173g]; omega) (by show (ys177.getD z150.toInt.toNat 0).toInt = z172.toInt; rw [ys177g]; exact z176e) (fun g hg => congrArg Int32.toInt (ys177n g hg))) (by omega)
                              refine v_iload rfl rfl ?_
                              refine v_iload rfl rfl ?_
                              refine v_ishr rfl ?_
                              refine v_iconst (v := 1) rfl (by decide) ?_
                              refine v_iand rfl ?_
                              have hb148 := md_b0 (u := b) (x := z73) (by omega) (by omega)
                              rw [z73k] at hb148
                              refine r_if_ne rfl (fun t186 => ?_) (fun t186 => ?_)
                              · exact K157 w94 xs99 hI95 hh96 h97 h98 xs99l (by exact md_p1n t105 (by rcases hb148 with g | g; (omega); exact fun q => q g.2))
                              · refine v_aload_n rfl rfl ?_
                                refine v_get rfl h106 rfl ?_
                                refine v_iload rfl rfl ?_
                                refine r_iaload rfl h97 xs28l (by omega) (by omega) (fun z187 z187m z187g => ?_)
                                have z187f := t36 l92.toInt.toNat (by omega)
                                rw [show sq_lk xs28 l92.toInt.toNat = z187.toInt from (congrArg Int32.toInt z187g).symm] at z187f
                                have z187a := z187f.1
                                have z187b := z187f.2.1
                                refine v_iconst (v := 1) rfl (by decide) ?_
                                refine r_iadd rfl (by omega) (by omega) (fun z188 z188e => ?_)
                                refine v_aload_n rfl rfl ?_
                                refine v_get rfl h106 rfl ?_
                                refine v_iconst (v := 0) rfl (by decide) ?_
                                refine r_iaload rfl h98 xs99l (by omega) (by omega) (fun z189 z189m z189g => ?_)
                                have z189t : z189.toInt = (xs99.getD 0 0).toInt := congrArg Int32.toInt z189g
                                skip
                                refine r_icmp_ge rfl (fun t190 => ?_) (fun t190 => ?_)
                                · exact K157 w94 xs99 hI95 hh96 h97 h98 xs99l (by exact md_p1k t105 (by rcases hb148 with g | g; (exact g.2); omega) z187f (by show ¬ z187.toInt + 1 < (xs99.getD 0 0).toInt; omega))
                                · refine v_aload_n rfl rfl ?_
                                  refine v_get rfl h106 rfl ?_
                                  refine v_iconst (v := 0) rfl (by decide) ?_
                                  refine v_aload_n rfl rfl ?_
                                  refine v_get rfl h106 rfl ?_
                                  refine v_iload rfl rfl ?_
                                  refine r_iaload rfl h97 xs28l (by omega) (by omega) (fun z191 z191m z191g => ?_)
                                  have z191e : z191.toInt = z187.toInt := congrArg Int32.toInt (z191g.trans z187g.symm)
                                  refine v_iconst (v := 1) rfl (by decide) ?_
                                  refine r_iadd rfl (by omega) (by omega) (fun z192 z192e => ?_)
                                  skip
                                  refine r_iastx rfl h98 xs99l (by omega) (by omega) (fun ys193 ys193l ys193m ys193g ys193n => ?_)
                                  refine r_gen (w' := w94.set 83 (.inl (0, .inl ys193))) (fun w194 e195 => ?_)
                                  have hI196 : pm_IM gi ga w194 := by rw [e195]; exact hI95.set 83 (by decide) (by decide) (by decide) (by decide) ⟨ys193, ys193l, rfl⟩
                                  have hh197 : pm_lo w0 w194 := by rw [e195]; exact hh96.set (by decide) _
                                  have h198 := r_get_ne e195 (show 83 ≠ 82 by decide) h97
                                  have h199 := r_get_ne e195 (show 83 ≠ 59 by decide) h106
                                  have h200 := r_get_eq e195 h98
                                  exact K157 w194 ys193 hI196 hh197 h198 h200 ys193l (by
                                      exact md_p1t t105 (by rcases hb148 with g | g; (exact g.2); omega) z187f (by show z187.toInt + 1 < (xs99.getD 0 0).toInt; omega) (by
                                        have q : (ys193.getD 0 0).toInt = z192.toInt := congrArg Int32.toInt ys193g
                                        show (ys193.getD 0 0).toInt = z187.toInt + 1
                                        omega) (fun g hg => congrArg Int32.toInt (ys193n g hg)))
                            · refine v_iconst (v := 0) rfl (by decide) ?_
                              refine v_goto rfl ?_
                              refine v_iconst (v := 1) rfl (by decide) ?_
                              refine r_iadd rfl (by omega) (by omega) (fun z201 z201e => ?_)
                              refine v_istore rfl (Nat.le_of_ble_eq_true rfl) ?_
                              have K208 : ∀ (w202 : pm_W) (xs207 : List Int32), pm_IM gi ga w202 → pm_lo w0 w202 → w202[82]? = some (.inl (0, .inl xs28)) → w202[83]? = some (.inl (0, .inl xs207)) → xs207.length = 21 → (md_rw (md_T (gi 2).toInt.toNat (fun j => fs_st (fs_c (ga 15) y.toInt.toNat) (gi 0).toInt.toNat (md_wk (gi 0).toInt.toNat f.toInt.toNat j)) (fun j => ¬ md_b b (md_wk (gi 0).toInt.toNat f.toInt.toNat j)) (fun j => md_b u (md_wk (gi 0).toInt.toNat f.toInt.toNat j)) (md_wk (gi 0).toInt.toNat f.toInt.toNat) l19.toInt.toNat (l92.toInt.toNat + 1) l92.toInt.toNat) (sq_lk xs207)) → pm_V sc d 143 185 [.ref 59, .int y, .int f, .int m, .int u, .int b, .int l19, .int z73, .int l74, .int l92, .int z201] [] w202 (fun rv w' => pm_wI (fun v => 0 ≤ v.toInt ∧ v.toInt ≤ 99 ∧ md_mn (md_F (fs_c (ga 15) y.toInt.toNat) (gi 0).toInt.toNat (gi 2).toInt.toNat f.toInt.toNat m.toInt.toNat (md_b u) (md_b b)) v.toInt) rv ∧ pm_IM gi ga w' ∧ pm_lo w0 w') := by
                                intro w202 xs207 hI203 hh204 h205 h206 xs207l t209
                                refine v_iload rfl rfl ?_
                                refine v_iload rfl rfl ?_
                                refine v_ishr rfl ?_
                                refine v_iconst (v := 1) rfl (by decide) ?_
                                refine v_iand rfl ?_
                                have hb191 := md_b0 (u := u) (x := z73) (by omega) (by omega)
                                rw [z73k] at hb191
                                refine r_if_ne rfl (fun t210 => ?_) (fun t210 => ?_)
                                · refine r_iinc rfl rfl (by decide) (by omega) (by omega) (fun z211 z211e => ?_)
                                  refine v_goto rfl ?_
                                  exact ih118_100 z211 (.int z201) w202 xs207 hI203 hh204 h205 h206 xs207l (by omega) (by omega) (by omega) (by
                                      rw [show z211.toInt.toNat = l92.toInt.toNat + 1 by omega]
                                      exact md_p2n t209 (go := z201.toInt.toNat) (by rcases t78 with g | g; (exact Or.inl ⟨g.2, by omega⟩); exact Or.inr ⟨g.2, by omega⟩) (by
                                        rcases hb191 with g | g
                                        · exact fun q => absurd q.2 (by omega)
                                        · exact fun q => q.1 g.2)) (by omega)
                                · refine v_iload rfl rfl ?_
                                  refine v_aload_n rfl rfl ?_
                                  obtain ⟨v213, v214, v215, v216, v217, v218, v219, v220, ⟨v213z, v213e⟩, ⟨⟨v214a, v214b⟩, v214e⟩, ⟨⟨v215a, v215b⟩, v215e⟩, ⟨v217a, v217b⟩, ⟨v220a, v220b⟩, h212⟩ := hI203.2.1 59 (by decide) (by decide)
                                  have v213z := v213z.imp i_eq.mp i_eq.mp
                                  rw [i_0, i_1] at v213z
                                  refine v_get rfl h212 rfl ?_
                                  refine r_icmp_gt rfl (fun t221 => ?_) (fun t221 => ?_)
                                  · refine r_iinc rfl rfl (by decide) (by omega) (by omega) (fun z222 z222e => ?_)
                                    refine v_goto rfl ?_
                                    exact ih118_100 z222 (.int z201) w202 xs207 hI203 hh204 h205 h206 xs207l (by omega) (by omega) (by omega) (by
                                        rw [show z222.toInt.toNat = l92.toInt.toNat + 1 by omega]
                                        exact md_p2n t209 (go := z201.toInt.toNat) (by rcases t78 with g | g; (exact Or.inl ⟨g.2, by omega⟩); exact Or.inr ⟨g.2, by omega⟩) (by
                                          rcases hb191 with g | g
                                          · exact fun q => absurd q.2 (by omega)
                                          · exact fun q => q.1 g.2)) (by omega)
                                  · refine v_aload_n rfl rfl ?_
                                    refine v_get rfl h212 rfl ?_
                                    refine v_iload rfl rfl ?_
                                    refine r_iaload rfl h205 xs28l (by omega) (by omega) (fun z223 z223m z223g => ?_)
                                    have z223f := t36 l92.toInt.toNat (by omega)
                                    rw [show sq_lk xs28 l92.toInt.toNat = z223.toInt from (congrArg Int32.toInt z223g).symm] at z223f
                                    have z223a := z223f.1
                                    have z223b := z223f.2.1
                                    refine v_aload_n rfl rfl ?_
                                    refine v_get rfl h212 rfl ?_
                                    refine v_iload rfl rfl ?_
                                    refine r_iaload rfl h206 xs207l (by omega) (by omega) (fun z224 z224m z224g => ?_)
                                    have z224t : z224.toInt = (xs207.getD 1 0).toInt := by rw [z224g, show z201.toInt.toNat = 1 by omega]
                                    skip
                                    refine r_icmp_ge rfl (fun t225 => ?_) (fun t225 => ?_)
                                    · refine r_iinc rfl rfl (by decide) (by omega) (by omega) (fun z226 z226e => ?_)
                                      refine v_goto rfl ?_
                                      exact ih118_100 z226 (.int z201) w202 xs207 hI203 hh204 h205 h206 xs207l (by omega) (by omega) (by omega) (by
                                          rw [show z226.toInt.toNat = l92.toInt.toNat + 1 by omega]
                                          exact md_p2k t209 (go := z201.toInt.toNat) (by rcases t78 with g | g; (exact Or.inl ⟨g.2, by omega⟩); exact Or.inr ⟨g.2, by omega⟩) (by rcases hb191 with g | g; (exact g.2); omega) (by omega) z223f (by show ¬ z223.toInt < (xs207.getD z201.toInt.toNat 0).toInt; rw [← z224g]; omega)) (by omega)
                                    · refine v_aload_n rfl rfl ?_
                                      refine v_get rfl h212 rfl ?_
                                      refine v_iload rfl rfl ?_
                                      refine v_aload_n rfl rfl ?_
                                      refine v_get rfl h212 rfl ?_
                                      refine v_iload rfl rfl ?_
                                      refine r_iaload rfl h205 xs28l (by omega) (by omega) (fun z227 z227m z227g => ?_)
                                      have z227e : z227.toInt = z223.toInt := congrArg Int32.toInt (z227g.trans z223g.symm)
                                      refine r_iastx rfl h206 xs207l (by omega) (by omega) (fun ys228 ys228l ys228m ys228g ys228n => ?_)
                                      refine r_gen (w' := w202.set 83 (.inl (0, .inl ys228))) (fun w229 e230 => ?_)
                                      have hI231 : pm_IM gi ga w229 := by rw [e230]; exact hI203.set 83 (by decide) (by decide) (by decide) (by decide) ⟨ys228, ys228l, rfl⟩
                                      have hh232 : pm_lo w0 w229 := by rw [e230]; exact hh204.set (by decide) _
                                      have h233 := r_get_ne e230 (show 83 ≠ 82 by decide) h205
                                      have h234 := r_get_ne e230 (show 83 ≠ 59 by decide) h212
                                      have h235 := r_get_eq e230 h206
                                      refine r_iinc rfl rfl (by decide) (by omega) (by omega) (fun z236 z236e => ?_)
                                      refine v_goto rfl ?_
                                      exact ih118_100 z236 (.int z201) w229 ys228 hI231 hh232 h233 h235 ys228l (by omega) (by omega) (by omega) (by
                                          rw [show z236.toInt.toNat = l92.toInt.toNat + 1 by omega]
                                          exact md_p2t t209 (go := z201.toInt.toNat) (by rcases t78 with g | g; (exact Or.inl ⟨g.2, by omega⟩); exact Or.inr ⟨g.2, by omega⟩) (by rcases hb191 with g | g; (exact g.2); omega) (by omega) z223f (by show z223.toInt < (xs207.getD z201.toInt.toNat 0).toInt; rw [← z224g]; omega) (by show (ys228.getD z201.toInt.toNat 0).toInt = z223.toInt; rw [ys228g]; exact z227e) (fun g hg => congrArg Int32.toInt (ys228n g hg))) (by omega)
                              refine v_iload rfl rfl ?_
                              refine v_iload rfl rfl ?_
                              refine v_ishr rfl ?_
                              refine v_iconst (v := 1) rfl (by decide) ?_
                              refine v_iand rfl ?_
                              have hb148 := md_b0 (u := b) (x := z73) (by omega) (by omega)
                              rw [z73k] at hb148
                              refine r_if_ne rfl (fun t237 => ?_) (fun t237 => ?_)
                              · exact K208 w94 xs99 hI95 hh96 h97 h98 xs99l (by exact md_p1n t105 (by rcases hb148 with g | g; (omega); exact fun q => q g.2))
                              · refine v_aload_n rfl rfl ?_
                                refine v_get rfl h106 rfl ?_
                                refine v_iload rfl rfl ?_
                                refine r_iaload rfl h97 xs28l (by omega) (by omega) (fun z238 z238m z238g => ?_)
                                have z238f := t36 l92.toInt.toNat (by omega)
                                rw [show sq_lk xs28 l92.toInt.toNat = z238.toInt from (congrArg Int32.toInt z238g).symm] at z238f
                                have z238a := z238f.1
                                have z238b := z238f.2.1
                                refine v_iconst (v := 1) rfl (by decide) ?_
                                refine r_iadd rfl (by omega) (by omega) (fun z239 z239e => ?_)
                                refine v_aload_n rfl rfl ?_
                                refine v_get rfl h106 rfl ?_
                                refine v_iconst (v := 0) rfl (by decide) ?_
                                refine r_iaload rfl h98 xs99l (by omega) (by omega) (fun z240 z240m z240g => ?_)
                                have z240t : z240.toInt = (xs99.getD 0 0).toInt := congrArg Int32.toInt z240g
                                skip
                                refine r_icmp_ge rfl (fun t241 => ?_) (fun t241 => ?_)
                                · exact K208 w94 xs99 hI95 hh96 h97 h98 xs99l (by exact md_p1k t105 (by rcases hb148 with g | g; (exact g.2); omega) z238f (by show ¬ z238.toInt + 1 < (xs99.getD 0 0).toInt; omega))
                                · refine v_aload_n rfl rfl ?_
                                  refine v_get rfl h106 rfl ?_
                                  refine v_iconst (v := 0) rfl (by decide) ?_
                                  refine v_aload_n rfl rfl ?_
                                  refine v_get rfl h106 rfl ?_
                                  refine v_iload rfl rfl ?_
                                  refine r_iaload rfl h97 xs28l (by omega) (by omega) (fun z242 z242m z242g => ?_)
                                  have z242e : z242.toInt = z238.toInt := congrArg Int32.toInt (z242g.trans z238g.symm)
                                  refine v_iconst (v := 1) rfl (by decide) ?_
                                  refine r_iadd rfl (by omega) (by omega) (fun z243 z243e => ?_)
                                  skip
                                  refine r_iastx rfl h98 xs99l (by omega) (by omega) (fun ys244 ys244l ys244m ys244g ys244n => ?_)
                                  refine r_gen (w' := w94.set 83 (.inl (0, .inl ys244))) (fun w245 e246 => ?_)
                                  have hI247 : pm_IM gi ga w245 := by rw [e246]; exact hI95.set 83 (by decide) (by decide) (by decide) (by decide) ⟨ys244, ys244l, rfl⟩
                                  have hh248 : pm_lo w0 w245 := by rw [e246]; exact hh96.set (by decide) _
                                  have h249 := r_get_ne e246 (show 83 ≠ 82 by decide) h97
                                  have h250 := r_get_ne e246 (show 83 ≠ 59 by decide) h106
                                  have h251 := r_get_eq e246 h98
                                  exact K208 w245 ys244 hI247 hh248 h249 h251 ys244l (by
                                      exact md_p1t t105 (by rcases hb148 with g | g; (exact g.2); omega) z238f (by show z238.toInt + 1 < (xs99.getD 0 0).toInt; omega) (by
                                        have q : (ys244.getD 0 0).toInt = z243.toInt := congrArg Int32.toInt ys244g
                                        show (ys244.getD 0 0).toInt = z238.toInt + 1
                                        omega) (fun g hg => congrArg Int32.toInt (ys244n g hg)))
                      exact L100 _ (0 : Int32) (u23) w80 xs85 hI81 hh82 h83 h84 xs85l (by omega) (by omega) (by omega) (by exact md_rwT (fun j hj => t90 j (by omega))) (Nat.lt_add_one _)
                    · refine v_aload_n rfl rfl ?_
                      obtain ⟨v253, v254, v255, v256, v257, v258, v259, v260, ⟨v253z, v253e⟩, ⟨⟨v254a, v254b⟩, v254e⟩, ⟨⟨v255a, v255b⟩, v255e⟩, ⟨v257a, v257b⟩, ⟨v260a, v260b⟩, h252⟩ := hI81.2.1 59 (by decide) (by decide)
                      have v253z := v253z.imp i_eq.mp i_eq.mp
                      rw [i_0, i_1] at v253z
                      refine v_get rfl h252 rfl ?_
                      refine v_iload rfl rfl ?_
                      refine v_bipush (v := 99) rfl (by decide) ?_
                      refine r_iastx rfl h84 xs85l (by omega) (by omega) (fun ys261 ys261l ys261m ys261g ys261n => ?_)
                      refine r_gen (w' := w80.set 83 (.inl (0, .inl ys261))) (fun w262 e263 => ?_)
                      have hI264 : pm_IM gi ga w262 := by rw [e263]; exact hI81.set 83 (by decide) (by decide) (by decide) (by decide) ⟨ys261, ys261l, rfl⟩
                      have hh265 : pm_lo w0 w262 := by rw [e263]; exact hh82.set (by decide) _
                      have h266 := r_get_ne e263 (show 83 ≠ 82 by decide) h83
                      have h267 := r_get_ne e263 (show 83 ≠ 59 by decide) h252
                      have h268 := r_get_eq e263 h84
                      refine r_iinc rfl rfl (by decide) (by omega) (by omega) (fun z269 z269e => ?_)
                      refine v_goto rfl ?_
                      exact ih93_86 z269 w262 ys261 hI264 hh265 h266 h268 ys261l (by omega) (by omega) (by
                          intro j hj
                          by_cases e : j = l79.toInt.toNat
                          · rw [e]
                            have q : sq_lk ys261 l79.toInt.toNat = (99 : Int32).toInt := congrArg Int32.toInt ys261g
                            rw [q]
                            exact k99
                          · rw [show sq_lk ys261 j = sq_lk xs85 j from congrArg Int32.toInt (ys261n j e)]
                            exact t90 j (by omega)) (by omega)
                exact L86 _ (0 : Int32) w24 xs30 hI25 hh26 h27 h29 xs30l (by omega) (by omega) (by intro j hj; rw [show (0 : Int32).toInt.toNat = 0 from rfl] at hj; omega) (Nat.lt_add_one _)
              refine v_aload_n rfl rfl ?_
              refine v_iload rfl rfl ?_
              refine v_aload_n rfl rfl ?_
              refine v_get rfl h64 rfl ?_
              refine r_iadd rfl (by omega) (by omega) (fun z270 z270e => ?_)
              refine v_iconst (v := 1) rfl (by decide) ?_
              refine r_isub rfl (by omega) (by omega) (fun z271 z271e => ?_)
              skip
              refine v_aload_n rfl rfl ?_
              refine v_get rfl h64 rfl ?_
              refine r_irem rfl (by omega) (by omega) (fun z272 z272m z272a z272b z272c => ?_)
              have z272k := j_em z272m (by omega) (by omega)
              rw [show z271.toInt.toNat = z73.toInt.toNat + (gi 0).toInt.toNat - 1 by omega] at z272k
              clear z272m
              refine v_iload_n rfl rfl ?_
              obtain ⟨sq274l, sq274r, h273⟩ := hI25.2.1 60 (by decide) (by decide)
              refine v_callV rfl (W_X12_colour_59_x z272 y (ga 15) (by omega) (by omega) (by omega) (by omega) h273 sq274l hR hI25) rfl rfl h64 rfl rfl (by omega) (fun rv w275 hq276 => ?_)
              obtain ⟨⟨z277, rfl, z277p0⟩, rfl⟩ := hq276
              have z277A : z277 = (fs_c (ga 15) y.toInt.toNat) z272.toInt.toNat := i_eq.mpr (by rw [z277p0]; unfold fs_c sq_c; rw [show (20 * y.toInt + z272.toInt).toNat = 20 * y.toInt.toNat + z272.toInt.toNat by omega])
              refine v_aload_n rfl rfl ?_
              refine v_iload rfl rfl ?_
              refine v_iload_n rfl rfl ?_
              refine v_callV rfl (W_X12_colour_59_x z73 y (ga 15) (by omega) (by omega) (by omega) (by omega) h273 sq274l hR hI25) rfl rfl h64 rfl rfl (by omega) (fun rv w278 hq279 => ?_)
              obtain ⟨⟨z280, rfl, z280p0⟩, rfl⟩ := hq279
              have z280A : z280 = (fs_c (ga 15) y.toInt.toNat) z73.toInt.toNat := i_eq.mpr (by rw [z280p0]; unfold fs_c sq_c; rw [show (20 * y.toInt + z73.toInt).toNat = 20 * y.toInt.toNat + z73.toInt.toNat by omega])
              refine r_icmp_eq rfl (fun t281 => ?_) (fun t281 => ?_)
              · refine v_iconst (v := 0) rfl (by decide) ?_
                refine v_istore rfl (Nat.le_of_ble_eq_true rfl) ?_
                exact K75 (0 : Int32) (by omega) (by omega) (by
                    have hd : fs_st (fs_c (ga 15) y.toInt.toNat) (gi 0).toInt.toNat z73.toInt.toNat ↔ ¬ z280 = z277 := by
                      unfold fs_st
                      rw [← z272k, ← z277A, ← z280A]
                    rw [z73k] at hd
                    first
                    | exact Or.inl ⟨by omega, hd.mpr (fun q => by have := congrArg Int32.toInt q; omega)⟩
                    | exact Or.inr ⟨by omega, fun q => hd.mp q (i_eq.mpr (by omega))⟩)
              · refine v_iconst (v := 1) rfl (by decide) ?_
                refine v_goto rfl ?_
                refine v_istore rfl (Nat.le_of_ble_eq_true rfl) ?_
                exact K75 (1 : Int32) (by omega) (by omega) (by
                    have hd : fs_st (fs_c (ga 15) y.toInt.toNat) (gi 0).toInt.toNat z73.toInt.toNat ↔ ¬ z280 = z277 := by
                      unfold fs_st
                      rw [← z272k, ← z277A, ← z280A]
                    rw [z73k] at hd
                    first
                    | exact Or.inl ⟨by omega, hd.mpr (fun q => by have := congrArg Int32.toInt q; omega)⟩
                    | exact Or.inr ⟨by omega, fun q => hd.mp q (i_eq.mpr (by omega))⟩)
        exact L31 _ (0 : Int32) (.null) (.null) (.null) (.null) w6 xs10 xs12 hI7 hh8 h9 xs10l h11 xs12l (by omega) (by omega) (by omega) (by exact md_rw0 (fun j hj => t17 j (by omega))) (Nat.lt_add_one _)
      · refine v_aload_n rfl rfl ?_
        obtain ⟨v283, v284, v285, v286, v287, v288, v289, v290, ⟨v283z, v283e⟩, ⟨⟨v284a, v284b⟩, v284e⟩, ⟨⟨v285a, v285b⟩, v285e⟩, ⟨v287a, v287b⟩, ⟨v290a, v290b⟩, h282⟩ := hI7.2.1 59 (by decide) (by decide)
        have v283z := v283z.imp i_eq.mp i_eq.mp
        rw [i_0, i_1] at v283z
        refine v_get rfl h282 rfl ?_
        refine v_iload rfl rfl ?_
        refine v_iload rfl rfl ?_
        refine r_if_ne rfl (fun t291 => ?_) (fun t291 => ?_)
        · refine v_bipush (v := 99) rfl (by decide) ?_
          skip
          refine r_iastx rfl h9 xs10l (by omega) (by omega) (fun ys292 ys292l ys292m ys292g ys292n => ?_)
          refine r_gen (w' := w6.set 82 (.inl (0, .inl ys292))) (fun w293 e294 => ?_)
          have hI295 : pm_IM gi ga w293 := by rw [e294]; exact hI7.set 82 (by decide) (by decide) (by decide) (by decide) ⟨ys292, ys292l, rfl⟩
          have hh296 : pm_lo w0 w293 := by rw [e294]; exact hh8.set (by decide) _
          have h297 := r_get_ne e294 (show 82 ≠ 83 by decide) h11
          have h298 := r_get_ne e294 (show 82 ≠ 59 by decide) h282
          have h299 := r_get_eq e294 h9
          refine r_iinc rfl rfl (by decide) (by omega) (by omega) (fun z300 z300e => ?_)
          refine v_goto rfl ?_
          exact ih3_13 z300 w293 ys292 xs12 hI295 hh296 h299 ys292l h297 xs12l (by omega) (by omega) (by
              intro j hj
              by_cases e : j = l5.toInt.toNat
              · rw [e]
                have q : sq_lk ys292 l5.toInt.toNat = (99 : Int32).toInt := congrArg Int32.toInt ys292g
                rw [q]
                by_cases e2 : l5.toInt.toNat = 0
                · rw [if_pos e2]; omega
                · rw [if_neg e2]; omega
              · rw [show sq_lk ys292 j = sq_lk xs10 j from congrArg Int32.toInt (ys292n j e)]
                exact t17 j (by omega)) (by omega)
        · refine v_iconst (v := 0) rfl (by decide) ?_
          skip
          refine v_goto rfl ?_
          refine r_iastx rfl h9 xs10l (by omega) (by omega) (fun ys301 ys301l ys301m ys301g ys301n => ?_)
          refine r_gen (w' := w6.set 82 (.inl (0, .inl ys301))) (fun w302 e303 => ?_)
          have hI304 : pm_IM gi ga w302 := by rw [e303]; exact hI7.set 82 (by decide) (by decide) (by decide) (by decide) ⟨ys301, ys301l, rfl⟩
          have hh305 : pm_lo w0 w302 := by rw [e303]; exact hh8.set (by decide) _
          have h306 := r_get_ne e303 (show 82 ≠ 83 by decide) h11
          have h307 := r_get_ne e303 (show 82 ≠ 59 by decide) h282
          have h308 := r_get_eq e303 h9
          refine r_iinc rfl rfl (by decide) (by omega) (by omega) (fun z309 z309e => ?_)
          refine v_goto rfl ?_
          exact ih3_13 z309 w302 ys301 xs12 hI304 hh305 h308 ys301l h306 xs12l (by omega) (by omega) (by
              intro j hj
              by_cases e : j = l5.toInt.toNat
              · rw [e]
                have q : sq_lk ys301 l5.toInt.toNat = (0 : Int32).toInt := congrArg Int32.toInt ys301g
                rw [q]
                by_cases e2 : l5.toInt.toNat = 0
                · rw [if_pos e2]; omega
                · rw [if_neg e2]; omega
              · rw [show sq_lk ys301 j = sq_lk xs10 j from congrArg Int32.toInt (ys301n j e)]
                exact t17 j (by omega)) (by omega)
  exact L13 _ (0 : Int32) w xs2 xs4 hI hh h1 xs2l h3 xs4l (by omega) (by omega) (by intro j hj; rw [show (0 : Int32).toInt.toNat = 0 from rfl] at hj; omega) (Nat.lt_add_one _)

