/-- the first that fits: none, a cord broken, a pick skipped, two cords crossed; -9: nothing fits -/
def ex_R (F0 : Prop) (F1 F2 : Nat → Prop) (F3 : Nat → Nat → Prop) (m H : Nat) (k a b : Int) : Prop :=
  (F0 ∧ k = 0 ∧ a = -9 ∧ b = -9) ∨
  (¬ F0 ∧ ∃ i : Nat, i < m ∧ F1 i ∧ (∀ j, j < i → ¬ F1 j) ∧ k = 1 ∧ a = (i : Int) ∧ b = -9) ∨
  (¬ F0 ∧ (∀ j, j < m → ¬ F1 j) ∧ ∃ i : Nat, i < H ∧ F2 i ∧ (∀ j, j < i → ¬ F2 j) ∧ k = 2 ∧ a = (i : Int) ∧ b = -9) ∨
  (¬ F0 ∧ (∀ j, j < m → ¬ F1 j) ∧ (∀ j, j < H → ¬ F2 j) ∧ ∃ i n : Nat, i < n ∧ n < m ∧ F3 i n ∧ (∀ j l, j < i → j < l → l < m → ¬ F3 j l) ∧ (∀ l, i < l → l < n → ¬ F3 i l) ∧ k = 3 ∧ a = (i : Int) ∧ b = (n : Int)) ∨
  (¬ F0 ∧ (∀ j, j < m → ¬ F1 j) ∧ (∀ j, j < H → ¬ F2 j) ∧ (∀ j l, j < l → l < m → ¬ F3 j l) ∧ k = -9 ∧ a = -9 ∧ b = -9)
theorem ex_R.uniq {F0 : Prop} {F1 F2 : Nat → Prop} {F3 : Nat → Nat → Prop} {m H : Nat} {k a b k' a' b' : Int} (h : ex_R F0 F1 F2 F3 m H k a b) (g : ex_R F0 F1 F2 F3 m H k' a' b') : k = k' ∧ a = a' ∧ b = b' := by
  rcases h with ⟨p, h1, h2, h3⟩ | ⟨p, i, hi, h1, h2, hk, ha, hb⟩ | ⟨p, q, i, hi, h1, h2, hk, ha, hb⟩ | ⟨p, q, r, i, n, hi, hn, h1, h2, h3, hk, ha, hb⟩ | ⟨p, q, r, s, hk, ha, hb⟩
  · rcases g with ⟨p', g1, g2, g3⟩ | ⟨p', -⟩ | ⟨p', -⟩ | ⟨p', -⟩ | ⟨p', -⟩
    · exact ⟨by omega, by omega, by omega⟩
    · exact absurd p p'
    · exact absurd p p'
    · exact absurd p p'
    · exact absurd p p'
  · rcases g with ⟨p', -⟩ | ⟨p', i', hi', g1, g2, gk, ga, gb⟩ | ⟨p', q', -⟩ | ⟨p', q', -⟩ | ⟨p', q', -⟩
    · exact absurd p' p
    · rcases Nat.lt_trichotomy i i' with c | c | c
      · exact absurd h1 (g2 i c)
      · exact ⟨by omega, by omega, by omega⟩
      · exact absurd g1 (h2 i' c)
    · exact absurd h1 (q' i hi)
    · exact absurd h1 (q' i hi)
    · exact absurd h1 (q' i hi)
  · rcases g with ⟨p', -⟩ | ⟨p', i', hi', g1, g2, gk, ga, gb⟩ | ⟨p', q', i', hi', g1, g2, gk, ga, gb⟩ | ⟨p', q', r', -⟩ | ⟨p', q', r', -⟩
    · exact absurd p' p
    · exact absurd g1 (q i' hi')
    · rcases Nat.lt_trichotomy i i' with c | c | c
      · exact absurd h1 (g2 i c)
      · exact ⟨by omega, by omega, by omega⟩
      · exact absurd g1 (h2 i' c)
    · exact absurd h1 (r' i hi)
    · exact absurd h1 (r' i hi)
  · rcases g with ⟨p', -⟩ | ⟨p', i', hi', g1, g2, gk, ga, gb⟩ | ⟨p', q', i', hi', g1, g2, gk, ga, gb⟩ | ⟨p', q', r', i', n', hi', hn', g1, g2, g3, gk, ga, gb⟩ | ⟨p', q', r', s', -⟩
    · exact absurd p' p
    · exact absurd g1 (q i' hi')
    · exact absurd g1 (r i' hi')
    · rcases Nat.lt_trichotomy i i' with c | c | c
      · exact absurd h1 (g2 i n c hi hn)
      · subst c
        rcases Nat.lt_trichotomy n n' with d | d | d
        · exact absurd h1 (g3 n hi d)
        · exact ⟨by omega, by omega, by omega⟩
        · exact absurd g1 (h3 n' hi' d)
      · exact absurd g1 (h2 i' n' c hi' hn')
    · exact absurd h1 (s' i n hi hn)
  · rcases g with ⟨p', -⟩ | ⟨p', i', hi', g1, g2, gk, ga, gb⟩ | ⟨p', q', i', hi', g1, g2, gk, ga, gb⟩ | ⟨p', q', r', i', n', hi', hn', g1, g2, g3, gk, ga, gb⟩ | ⟨p', q', r', s', gk, ga, gb⟩
    · exact absurd p' p
    · exact absurd g1 (q i' hi')
    · exact absurd g1 (r i' hi')
    · exact absurd g1 (s i' n' hi' hn')
    · exact ⟨by omega, by omega, by omega⟩
theorem ex_R.imp {F0 G0 : Prop} {F1 F2 G1 G2 : Nat → Prop} {F3 G3 : Nat → Nat → Prop} {m H : Nat} {k a b : Int} (h : ex_R F0 F1 F2 F3 m H k a b) (e0 : F0 ↔ G0) (e1 : ∀ i, i < m → (F1 i ↔ G1 i)) (e2 : ∀ i, i < H → (F2 i ↔ G2 i)) (e3 : ∀ i n, i < n → n < m → (F3 i n ↔ G3 i n)) : ex_R G0 G1 G2 G3 m H k a b := by
  rcases h with ⟨p, h1⟩ | ⟨p, i, hi, h1, h2, hk⟩ | ⟨p, q, i, hi, h1, h2, hk⟩ | ⟨p, q, r, i, n, hi, hn, h1, h2, h3, hk⟩ | ⟨p, q, r, s, hk⟩
  · exact Or.inl ⟨e0.mp p, h1⟩
  · exact Or.inr (Or.inl ⟨fun g => p (e0.mpr g), i, hi, (e1 i hi).mp h1, fun j hj g => h2 j hj ((e1 j (by omega)).mpr g), hk⟩)
  · exact Or.inr (Or.inr (Or.inl ⟨fun g => p (e0.mpr g), fun j hj g => q j hj ((e1 j hj).mpr g), i, hi, (e2 i hi).mp h1, fun j hj g => h2 j hj ((e2 j (by omega)).mpr g), hk⟩))
  · exact Or.inr (Or.inr (Or.inr (Or.inl ⟨fun g => p (e0.mpr g), fun j hj g => q j hj ((e1 j hj).mpr g), fun j hj g => r j hj ((e2 j hj).mpr g), i, n, hi, hn, (e3 i n hi hn).mp h1, fun j l h4 h5 h6 g => h2 j l h4 h5 h6 ((e3 j l h5 h6).mpr g), fun l h4 h5 g => h3 l h4 h5 ((e3 i l h4 (by omega)).mpr g), hk⟩)))
  · exact Or.inr (Or.inr (Or.inr (Or.inr ⟨fun g => p (e0.mpr g), fun j hj g => q j hj ((e1 j hj).mpr g), fun j hj g => r j hj ((e2 j hj).mpr g), fun j l h4 h5 g => s j l h4 h5 ((e3 j l h4 h5).mpr g), hk⟩)))
/-- a cloth that is the design with one fault -/
def ex_E0 (ds cl : List Int32) (W H : Nat) : Prop := ∀ x y, x < W → y < H → cl.getD (20 * y + x) 0 = sq_c ds x y
def ex_E1 (ds cl os : List Int32) (W H i : Nat) : Prop := ∀ x y, x < W → y < H → cl.getD (20 * y + x) 0 = if sq_lk os x = (i : Int) then 0 else sq_c ds x y
def ex_E2 (ds cl : List Int32) (W H i : Nat) : Prop := ∀ x y, x < W → y < H → cl.getD (20 * y + x) 0 = if i ≤ y then (if y + 1 < H then sq_c ds x (y + 1) else 0) else sq_c ds x y
def ex_E3 (ds cl fs os : List Int32) (W H i n : Nat) : Prop := ∀ x y, x < W → y < H → cl.getD (20 * y + x) 0 = if sq_lk os x = (i : Int) then sq_c ds (sq_lk fs n).toNat y else if sq_lk os x = (n : Int) then sq_c ds (sq_lk fs i).toNat y else sq_c ds x y
def ex_X (ds cl fs os : List Int32) (W H m : Nat) (k a b : Int) : Prop := ex_R (ex_E0 ds cl W H) (ex_E1 ds cl os W H) (ex_E2 ds cl W H) (ex_E3 ds cl fs os W H) m H k a b
theorem ex_X.uniq {ds cl el fs os gs ps : List Int32} {W H m : Nat} {k a b k' a' b' : Int} (h : ex_X ds cl fs os W H m k a b) (g : ex_X ds el gs ps W H m k' a' b') (hc : ∀ x y, x < W → y < H → el.getD (20 * y + x) 0 = cl.getD (20 * y + x) 0) (hf : ∀ c, c < m → sq_lk fs c = sq_lk gs c) (ho : ∀ x, x < W → sq_lk os x = sq_lk ps x) : k = k' ∧ a = a' ∧ b = b' := by
  refine ex_R.uniq h (ex_R.imp g ⟨fun q x y hx hy => ?_, fun q x y hx hy => ?_⟩ (fun i hi => ⟨fun q x y hx hy => ?_, fun q x y hx hy => ?_⟩) (fun i hi => ⟨fun q x y hx hy => ?_, fun q x y hx hy => ?_⟩) (fun i n hi hn => ⟨fun q x y hx hy => ?_, fun q x y hx hy => ?_⟩))
  · rw [← hc x y hx hy]; exact q x y hx hy
  · rw [hc x y hx hy]; exact q x y hx hy
  · rw [← hc x y hx hy, ho x hx]; exact q x y hx hy
  · rw [hc x y hx hy, ← ho x hx]; exact q x y hx hy
  · rw [← hc x y hx hy]; exact q x y hx hy
  · rw [hc x y hx hy]; exact q x y hx hy
  · rw [← hc x y hx hy, ho x hx, hf n hn, hf i (by omega)]; exact q x y hx hy
  · rw [hc x y hx hy, ← ho x hx, ← hf n hn, ← hf i (by omega)]; exact q x y hx hy
noncomputable def ex_pick (q : Int) (k a b : Int) : Int := if q = 0 then k else if q = 1 then a else b
def ex_P (gi : Nat → Int32) (ga : Nat → List Int32) (cw ch : Int32) (cl : List Int32) (q v : Int32) : Prop := (¬ (0 ≤ q.toInt ∧ q.toInt < 3) ∧ v.toInt = -2) ∨ ((0 ≤ q.toInt ∧ q.toInt < 3) ∧ ¬ ((gi 9).toInt = 1 ∧ cw.toInt = (gi 0).toInt ∧ ch.toInt = (gi 1).toInt) ∧ v.toInt = -3) ∨ ((0 ≤ q.toInt ∧ q.toInt < 3) ∧ ((gi 9).toInt = 1 ∧ cw.toInt = (gi 0).toInt ∧ ch.toInt = (gi 1).toInt) ∧ ∃ (fs os : List Int32) (m : Nat) (k a b : Int), sq_ck gi ga fs os m ∧ ex_X (ga 15) cl fs os (gi 0).toInt.toNat (gi 1).toInt.toNat m k a b ∧ v.toInt = ex_pick q.toInt k a b)
theorem rel_explained {gi : Nat → Int32} {ga : Nat → List Int32} {q v u : Int32} (hL : (gi 9).toInt = 1 → gi 12 = gi 10 ∧ gi 13 = gi 11 ∧ ∀ x y, x < (gi 10).toInt.toNat → y < (gi 11).toInt.toNat → (ga 27).getD (20 * y + x) 0 = (ga 24).getD (20 * y + x) 0) (h : ex_P gi ga (gi 10) (gi 11) (ga 24) q v) (g : ex_P gi ga (gi 12) (gi 13) (ga 27) q u) : u = v := by
  refine i_eq.mpr ?_
  rcases h with ⟨h0, h1⟩ | ⟨h0, h1, h2⟩ | ⟨h0, h1, fs, os, m, k, a, b, h2, h3, h4⟩
  · rcases g with ⟨g0, g1⟩ | ⟨g0, -⟩ | ⟨g0, -⟩
    · omega
    · exact absurd g0 h0
    · exact absurd g0 h0
  · rcases g with ⟨g0, -⟩ | ⟨g0, g1, g2⟩ | ⟨g0, g1, -⟩
    · exact absurd h0 g0
    · omega
    · obtain ⟨e1, e2, -⟩ := hL g1.1
      rw [e1, e2] at g1
      exact absurd g1 h1
  · obtain ⟨e1, e2, e3⟩ := hL h1.1
    rw [e1, e2] at g
    rcases g with ⟨g0, -⟩ | ⟨g0, g1, -⟩ | ⟨g0, g1, gs, ps, n, k', a', b', g2, g3, g4⟩
    · exact absurd h0 g0
    · exact absurd h1 g1
    · obtain ⟨c1, c2, c3⟩ := ck.uniq h2 g2
      subst c1
      obtain ⟨d1, d2, d3⟩ := ex_X.uniq h3 g3 (fun x y hx hy => e3 x y (by omega) (by omega)) c2 c3
      rw [g4, h4, d1, d2, d3]
/-- by codes -/
theorem sq_z : ∀ n, sq_E (fun _ => 0) n = 0 := fun n => by
  induction n with
  | zero => rfl
  | succ n ih =>
    show 0 + 4 * sq_E (fun _ => 0) n = 0
    rw [ih]
theorem sq_ii {n : Nat} {f g : Nat → Nat} (hn : n ≤ 20) (hf : ∀ i, i < n → f i < 4) (hg : ∀ i, i < n → g i < 4) : Int64.ofNat (sq_E f n) = Int64.ofNat (sq_E g n) ↔ ∀ i, i < n → f i = g i := by
  have la := sq_E_lt hf
  have lb := sq_E_lt hg
  have hp : (4 : Nat) ^ n ≤ 4 ^ 20 := Nat.pow_le_pow_right (by decide) hn
  have hq : (4 : Nat) ^ 20 ≤ 2 ^ 40 := by decide
  exact ⟨fun h => sq_E_inj hf hg (sq_ofNat_inj (by omega) (by omega) h), fun h => by rw [sq_E_ext h]⟩
theorem sq_v2 {ds es : List Int32} (hd : sq_cl ds) (he : sq_cl es) {i j : Nat} : (ds.getD i 0).toInt.toNat = (es.getD j 0).toInt.toNat ↔ ds.getD i 0 = es.getD j 0 := by
  have a := hd.at i
  have b := he.at j
  exact ⟨fun h => i_eq.mpr (by omega), fun h => by rw [h]⟩
theorem sq_v0 {ds : List Int32} (hd : sq_cl ds) {i : Nat} : (ds.getD i 0).toInt.toNat = 0 ↔ ds.getD i 0 = 0 := by
  have a := hd.at i
  exact ⟨fun h => i_eq.mpr (by rw [i_0]; omega), fun h => by rw [h]; rfl⟩
theorem ex_c {ds es : List Int32} {cs ss : List Int64} {W H : Nat} (hd : sq_cl ds) (he : sq_cl es) (hH : H ≤ 20) (hcs : ∀ j, j < W → cs[j]? = some (Int64.ofNat (sq_E (pm_colf ds j) H))) (hss : ∀ j, j < W → ss[j]? = some (Int64.ofNat (sq_E (pm_colf es j) H))) {x c : Nat} (hx : x < W) (hc : c < W) : ss[x]? = cs[c]? ↔ ∀ y, y < H → es.getD (20 * y + x) 0 = sq_c ds c y := by
  rw [hss x hx, hcs c hc]
  constructor
  · intro h y hy
    exact (sq_v2 he hd).mp ((sq_ii hH (fun i _ => he.col x i) (fun i _ => hd.col c i)).mp (Option.some.inj h) y hy)
  · intro h
    rw [(sq_ii hH (fun i _ => he.col x i) (fun i _ => hd.col c i)).mpr (fun y hy => (sq_v2 he hd).mpr (h y hy))]
theorem ex_cz {es : List Int32} {ss : List Int64} {W H : Nat} (he : sq_cl es) (hH : H ≤ 20) (hss : ∀ j, j < W → ss[j]? = some (Int64.ofNat (sq_E (pm_colf es j) H))) {x : Nat} (hx : x < W) : ss[x]? = some 0 ↔ ∀ y, y < H → es.getD (20 * y + x) 0 = 0 := by
  rw [hss x hx]
  have e0 : (0 : Int64) = Int64.ofNat (sq_E (fun _ => 0) H) := by rw [sq_z]; rfl
  rw [e0]
  constructor
  · intro h y hy
    exact (sq_v0 he).mp ((sq_ii hH (fun i _ => he.col x i) (fun i _ => by decide)).mp (Option.some.inj h) y hy)
  · intro h
    rw [(sq_ii hH (fun i _ => he.col x i) (fun i _ => by decide)).mpr (fun y hy => (sq_v0 he).mpr (h y hy))]
theorem ex_w {ds es : List Int32} (hd : sq_cl ds) (he : sq_cl es) {y p : Nat} (hy : y < 20) (hp : p < 20) : (pm_enc es)[y]? = (pm_enc ds)[p]? ↔ ∀ x, x < 20 → es.getD (20 * y + x) 0 = sq_c ds x p := by
  rw [pm_enc_at hy, pm_enc_at hp]
  constructor
  · intro h x hx
    exact (sq_v2 he hd).mp ((sq_ii (Nat.le_refl 20) (fun i _ => he.row y i) (fun i _ => hd.row p i)).mp (Option.some.inj h) x hx)
  · intro h
    rw [(sq_ii (Nat.le_refl 20) (fun i _ => he.row y i) (fun i _ => hd.row p i)).mpr (fun x hx => (sq_v2 he hd).mpr (h x hx))]
theorem ex_wz {es : List Int32} (he : sq_cl es) {y : Nat} (hy : y < 20) : (pm_enc es)[y]? = some 0 ↔ ∀ x, x < 20 → es.getD (20 * y + x) 0 = 0 := by
  rw [pm_enc_at hy]
  have e0 : (0 : Int64) = Int64.ofNat (sq_E (fun _ => 0) 20) := by rw [sq_z]; rfl
  rw [e0]
  constructor
  · intro h x hx
    exact (sq_v0 he).mp ((sq_ii (Nat.le_refl 20) (fun i _ => he.row y i) (fun i _ => by decide)).mp (Option.some.inj h) x hx)
  · intro h
    rw [(sq_ii (Nat.le_refl 20) (fun i _ => he.row y i) (fun i _ => by decide)).mpr (fun x hx => (sq_v0 he).mpr (h x hx))]
/-- what the class compares -/
def ex_r0 (cs ss : List Int64) (W : Nat) : Prop := ∀ x, x < W → ss[x]? = cs[x]?
def ex_r1 (os : List Int32) (cs ss : List Int64) (W i : Nat) : Prop := ∀ x, x < W → ss[x]? = if sq_lk os x = (i : Int) then some 0 else cs[x]?
def ex_r2 (a b : List Int64) (H i : Nat) : Prop := ∀ y, y < H → b[y]? = if i ≤ y then (if y + 1 < H then a[y + 1]? else some 0) else a[y]?
def ex_r3 (fs os : List Int32) (cs ss : List Int64) (W i n : Nat) : Prop := ∀ x, x < W → ss[x]? = if sq_lk os x = (i : Int) then cs[(sq_lk fs n).toNat]? else if sq_lk os x = (n : Int) then cs[(sq_lk fs i).toNat]? else cs[x]?
def ex_fc (m : Int) (fs os : List Int32) (cs ss : List Int64) (W : Nat) (t f s : List Int32) : Prop := ∀ x, x < W → ss[x]? = if wv_col t f s fs os m x < 0 then some 0 else cs[(wv_col t f s fs os m x).toNat]?
def ex_fr (a b : List Int64) (H : Int) (t f : List Int32) : Prop := ∀ y : Nat, (y : Int) < H → b[y]? = if wv_pick t f H y < 0 then some 0 else a[(wv_pick t f H y).toNat]?
theorem ex_iff {W : Nat} {A B C : Nat → Option Int64} (h : ∀ x, x < W → B x = C x) : (∀ x, x < W → A x = B x) ↔ (∀ x, x < W → A x = C x) := ⟨fun g x hx => by rw [← h x hx]; exact g x hx, fun g x hx => by rw [h x hx]; exact g x hx⟩
theorem ex_fc0 {m : Int} {fs os : List Int32} {cs ss : List Int64} {W : Nat} {t f s : List Int32} (t1 : (t.getD 1 0).toInt = 0) (t3 : (t.getD 3 0).toInt = 0) : ex_fc m fs os cs ss W t f s ↔ ex_r0 cs ss W := ex_iff (fun x _ => by
  have e : wv_col t f s fs os m x = (x : Int) := by
    unfold wv_col
    rw [if_neg (fun q => by omega), if_neg (fun q => by omega)]
  rw [e, if_neg (show ¬ (x : Int) < 0 by omega), Int.toNat_natCast])
theorem ex_fc1 {m : Int} {fs os : List Int32} {cs ss : List Int64} {W i : Nat} {t f s : List Int32} (t1 : (t.getD 1 0).toInt = 1) (t3 : (t.getD 3 0).toInt = 0) (f1 : (f.getD 1 0).toInt = (i : Int)) : ex_fc m fs os cs ss W t f s ↔ ex_r1 os cs ss W i := ex_iff (fun x _ => by
  by_cases c : sq_lk os x = (i : Int)
  · have e : wv_col t f s fs os m x = -9 := by
      unfold wv_col
      rw [f1, if_pos (show (t.getD 1 0).toInt = 1 ∧ (i : Int) = sq_lk os x from ⟨t1, c.symm⟩)]
    rw [e, if_pos (show (-9 : Int) < 0 by decide), if_pos c]
  · have e : wv_col t f s fs os m x = (x : Int) := by
      unfold wv_col
      rw [f1, if_neg (show ¬ ((t.getD 1 0).toInt = 1 ∧ (i : Int) = sq_lk os x) from fun q => c q.2.symm), if_neg (fun q => by omega)]
    rw [e, if_neg (show ¬ (x : Int) < 0 by omega), if_neg c, Int.toNat_natCast])
theorem ex_fc3 {m : Int} {fs os : List Int32} {cs ss : List Int64} {W i n : Nat} {t f s : List Int32} (t1 : (t.getD 1 0).toInt = 0) (t3 : (t.getD 3 0).toInt = 1) (f3 : (f.getD 3 0).toInt = (i : Int)) (s3 : (s.getD 3 0).toInt = (n : Int)) (hi : (i : Int) < m) (hn : (n : Int) < m) (hf : ∀ c, 0 ≤ sq_lk fs c) : ex_fc m fs os cs ss W t f s ↔ ex_r3 fs os cs ss W i n := ex_iff (fun x _ => by
  have u : wv_col t f s fs os m x = if sq_lk os x = (i : Int) then sq_lk fs n else if sq_lk os x = (n : Int) then sq_lk fs i else (x : Int) := by
    unfold wv_col
    rw [f3, s3, if_neg (show ¬ ((t.getD 1 0).toInt = 1 ∧ (f.getD 1 0).toInt = sq_lk os x) from fun q => by omega), if_pos (show (t.getD 3 0).toInt = 1 ∧ 0 ≤ (i : Int) ∧ (i : Int) < m ∧ 0 ≤ (n : Int) ∧ (n : Int) < m from ⟨t3, by omega, hi, by omega, hn⟩), Int.toNat_natCast, Int.toNat_natCast]
  have a := hf i
  have b := hf n
  by_cases c : sq_lk os x = (i : Int)
  · rw [if_pos c] at u
    rw [u, if_pos c, if_neg (show ¬ sq_lk fs n < 0 by omega)]
  · rw [if_neg c] at u
    rw [if_neg c]
    by_cases d : sq_lk os x = (n : Int)
    · rw [if_pos d] at u
      rw [u, if_pos d, if_neg (show ¬ sq_lk fs i < 0 by omega)]
    · rw [if_neg d] at u
      rw [u, if_neg d, if_neg (show ¬ (x : Int) < 0 by omega), Int.toNat_natCast])
theorem ex_fr2 {a b : List Int64} {H i : Nat} {t f : List Int32} (t2 : (t.getD 2 0).toInt = 1) (f2 : (f.getD 2 0).toInt = (i : Int)) (hi : i < H) : ex_fr a b (H : Int) t f ↔ ex_r2 a b H i := by
  have e : ∀ y, y < H → (if wv_pick t f (H : Int) (y : Int) < 0 then some 0 else a[(wv_pick t f (H : Int) (y : Int)).toNat]?) = (if i ≤ y then (if y + 1 < H then a[y + 1]? else some 0) else a[y]?) := fun y hy => by
    by_cases c : i ≤ y
    · rw [if_pos c]
      by_cases d : y + 1 < H
      · have u : wv_pick t f (H : Int) (y : Int) = ((y + 1 : Nat) : Int) := by
          unfold wv_pick
          rw [f2, if_neg (show ¬ ((t.getD 2 0).toInt = 0 ∨ (H : Int) ≤ (i : Int) ∨ (y : Int) < (i : Int)) by omega), if_pos (show (y : Int) + 1 < (H : Int) by omega)]
          rfl
        rw [u, if_pos d, if_neg (show ¬ ((y + 1 : Nat) : Int) < 0 by omega), Int.toNat_natCast]
      · have u : wv_pick t f (H : Int) (y : Int) = -9 := by
          unfold wv_pick
          rw [f2, if_neg (show ¬ ((t.getD 2 0).toInt = 0 ∨ (H : Int) ≤ (i : Int) ∨ (y : Int) < (i : Int)) by omega), if_neg (show ¬ (y : Int) + 1 < (H : Int) by omega)]
        rw [u, if_neg d, if_pos (show (-9 : Int) < 0 by decide)]
    · have u : wv_pick t f (H : Int) (y : Int) = (y : Int) := by
        unfold wv_pick
        rw [f2, if_pos (show (t.getD 2 0).toInt = 0 ∨ (H : Int) ≤ (i : Int) ∨ (y : Int) < (i : Int) by omega)]
      rw [u, if_neg c, if_neg (show ¬ (y : Int) < 0 by omega), Int.toNat_natCast]
  exact ⟨fun g y hy => by rw [← e y hy]; exact g y (by omega), fun g y hy => by rw [e y (by omega)]; exact g y (by omega)⟩
theorem sq_lk_nn {xs : List Int32} (h : ∀ x ∈ xs, pm_rng x 0 19) (c : Nat) : 0 ≤ sq_lk xs c := by
  unfold sq_lk
  rw [List.getD_eq_getElem?_getD]
  cases e : xs[c]? with
  | none => exact Int.le_refl _
  | some v => exact (h v (List.mem_of_getElem? e)).1
/-- by squares -/
theorem ex_conv {ds es fs os : List Int32} {cs ss : List Int64} {W H m : Nat} {k a b : Int} (hd : sq_cl ds) (he : sq_cl es) (hW : W ≤ 20) (hH : H ≤ 20) (hcs : ∀ j, j < W → cs[j]? = some (Int64.ofNat (sq_E (pm_colf ds j) H))) (hss : ∀ j, j < W → ss[j]? = some (Int64.ofNat (sq_E (pm_colf es j) H))) (hod : sq_Oz ds W H) (hoe : sq_Oz es W H) (hf : ∀ c, c < m → (sq_lk fs c).toNat < W) (h : ex_R (ex_r0 cs ss W) (ex_r1 os cs ss W) (ex_r2 (pm_enc ds) (pm_enc es) H) (ex_r3 fs os cs ss W) m H k a b) : ex_X ds es fs os W H m k a b := by
  have hc := fun (x c : Nat) (hx : x < W) (hc : c < W) => ex_c hd he hH hcs hss hx hc
  have hz := fun (x : Nat) (hx : x < W) => ex_cz he hH hss hx
  refine ex_R.imp h ⟨fun q x y hx hy => (hc x x hx hx).mp (q x hx) y hy, fun q x hx => (hc x x hx hx).mpr (fun y hy => q x y hx hy)⟩ (fun i hi => ⟨fun q x y hx hy => ?_, fun q x hx => ?_⟩) (fun i hi => ⟨fun q x y hx hy => ?_, fun q y hy => ?_⟩) (fun i n hi hn => ⟨fun q x y hx hy => ?_, fun q x hx => ?_⟩)
  · have g := q x hx
    by_cases c : sq_lk os x = (i : Int)
    · rw [if_pos c] at g ⊢
      exact (hz x hx).mp g y hy
    · rw [if_neg c] at g ⊢
      exact (hc x x hx hx).mp g y hy
  · by_cases c : sq_lk os x = (i : Int)
    · rw [if_pos c]
      refine (hz x hx).mpr (fun y hy => ?_)
      have g := q x y hx hy
      rw [if_pos c] at g
      exact g
    · rw [if_neg c]
      refine (hc x x hx hx).mpr (fun y hy => ?_)
      have g := q x y hx hy
      rw [if_neg c] at g
      exact g
  · have g := q y hy
    by_cases c : i ≤ y
    · rw [if_pos c] at g ⊢
      by_cases d : y + 1 < H
      · rw [if_pos d] at g ⊢
        exact (ex_w hd he (by omega) (by omega)).mp g x (by omega)
      · rw [if_neg d] at g ⊢
        exact (ex_wz he (by omega)).mp g x (by omega)
    · rw [if_neg c] at g ⊢
      exact (ex_w hd he (by omega) (by omega)).mp g x (by omega)
  · by_cases c : i ≤ y
    · rw [if_pos c]
      by_cases d : y + 1 < H
      · rw [if_pos d]
        refine (ex_w hd he (by omega) (by omega)).mpr (fun x hx => ?_)
        by_cases e : x < W
        · have g := q x y e hy
          rw [if_pos c, if_pos d] at g
          exact g
        · unfold sq_c
          rw [hoe x y hx (by omega) (Or.inl (by omega)), hod x (y + 1) hx (by omega) (Or.inl (by omega))]
      · rw [if_neg d]
        refine (ex_wz he (by omega)).mpr (fun x hx => ?_)
        by_cases e : x < W
        · have g := q x y e hy
          rw [if_pos c, if_neg d] at g
          exact g
        · exact hoe x y hx (by omega) (Or.inl (by omega))
    · rw [if_neg c]
      refine (ex_w hd he (by omega) (by omega)).mpr (fun x hx => ?_)
      by_cases e : x < W
      · have g := q x y e hy
        rw [if_neg c] at g
        exact g
      · unfold sq_c
        rw [hoe x y hx (by omega) (Or.inl (by omega)), hod x y hx (by omega) (Or.inl (by omega))]
  · have g := q x hx
    have f1 := hf n hn
    have f2 := hf i (by omega)
    by_cases c : sq_lk os x = (i : Int)
    · rw [if_pos c] at g ⊢
      exact (hc x _ hx f1).mp g y hy
    · rw [if_neg c] at g ⊢
      by_cases d : sq_lk os x = (n : Int)
      · rw [if_pos d] at g ⊢
        exact (hc x _ hx f2).mp g y hy
      · rw [if_neg d] at g ⊢
        exact (hc x x hx hx).mp g y hy
  · have f1 := hf n hn
    have f2 := hf i (by omega)
    by_cases c : sq_lk os x = (i : Int)
    · rw [if_pos c]
      refine (hc x _ hx f1).mpr (fun y hy => ?_)
      have g := q x y hx hy
      rw [if_pos c] at g
      exact g
    · rw [if_neg c]
      by_cases d : sq_lk os x = (n : Int)
      · rw [if_pos d]
        refine (hc x _ hx f2).mpr (fun y hy => ?_)
        have g := q x y hx hy
        rw [if_neg c, if_pos d] at g
        exact g
      · rw [if_neg d]
        refine (hc x x hx hx).mpr (fun y hy => ?_)
        have g := q x y hx hy
        rw [if_neg c, if_neg d] at g
        exact g
/-- what the reference compares -/
def ex_is (sh cl : List Int32) (W H : Nat) : Prop := ∀ x y, x < W → y < H → sh.getD (20 * y + x) 0 = cl.getD (20 * y + x) 0
theorem ex_m0 {ds cl sh : List Int32} {W H : Nat} (hW : W ≤ 20) (hH : H ≤ 20) (h0 : ∀ k, k < 400 → sh.getD k 0 = ds.getD k 0) : ex_is sh cl W H ↔ ex_E0 ds cl W H := ⟨fun g x y hx hy => by
  have q := g x y hx hy
  rw [h0 _ (by omega)] at q
  exact q.symm, fun g x y hx hy => by
  rw [h0 _ (by omega)]
  exact (g x y hx hy).symm⟩
theorem ex_m1 {ds cl sh sg os : List Int32} {W H i : Nat} {a : Int32} (hW : W ≤ 20) (hH : H ≤ 20) (h0 : ∀ k, k < 400 → sh.getD k 0 = ds.getD k 0) (ha : a.toInt = (i : Int)) (h1 : ∀ x y, x < W → y < H → sg.getD (20 * y + x) 0 = if sq_lk os x = a.toInt then 0 else sh.getD (20 * y + x) 0) : ex_is sg cl W H ↔ ex_E1 ds cl os W H i := by
  rw [ha] at h1
  exact ⟨fun g x y hx hy => by
    have q := g x y hx hy
    rw [h1 x y hx hy, h0 _ (by omega)] at q
    exact q.symm, fun g x y hx hy => by
    rw [h1 x y hx hy, h0 _ (by omega)]
    exact (g x y hx hy).symm⟩
theorem ex_m2 {ds cl sh sg : List Int32} {W H i : Nat} {a : Int32} (hW : W ≤ 20) (hH : H ≤ 20) (h0 : ∀ k, k < 400 → sh.getD k 0 = ds.getD k 0) (ha : a.toInt.toNat = i) (h1 : ∀ x y, x < W → y < H → sg.getD (20 * y + x) 0 = if a.toInt.toNat ≤ y then (if y + 1 < H then sh.getD (20 * (y + 1) + x) 0 else 0) else sh.getD (20 * y + x) 0) : ex_is sg cl W H ↔ ex_E2 ds cl W H i := by
  rw [ha] at h1
  have e : ∀ x y, x < W → y < H → sg.getD (20 * y + x) 0 = if i ≤ y then (if y + 1 < H then sq_c ds x (y + 1) else 0) else sq_c ds x y := fun x y hx hy => by
    rw [h1 x y hx hy, h0 (20 * y + x) (by omega)]
    by_cases c : y + 1 < H
    · rw [h0 (20 * (y + 1) + x) (by omega)]
      rfl
    · rw [if_neg c, if_neg c]
      rfl
  exact ⟨fun g x y hx hy => by
    have q := g x y hx hy
    rw [e x y hx hy] at q
    exact q.symm, fun g x y hx hy => by
    rw [e x y hx hy]
    exact (g x y hx hy).symm⟩
theorem ex_m3 {ds cl sh sg fs os : List Int32} {W H i n : Nat} {a b : Int32} (hW : W ≤ 20) (hH : H ≤ 20) (h0 : ∀ k, k < 400 → sh.getD k 0 = ds.getD k 0) (ha : a.toInt = (i : Int)) (hb : b.toInt = (n : Int)) (h1 : ∀ x y, x < W → y < H → sg.getD (20 * y + x) 0 = if sq_lk os x = a.toInt then sq_c ds (sq_lk fs b.toInt.toNat).toNat y else if sq_lk os x = b.toInt then sq_c ds (sq_lk fs a.toInt.toNat).toNat y else sh.getD (20 * y + x) 0) : ex_is sg cl W H ↔ ex_E3 ds cl fs os W H i n := by
  rw [ha, hb, Int.toNat_natCast, Int.toNat_natCast] at h1
  exact ⟨fun g x y hx hy => by
    have q := g x y hx hy
    rw [h1 x y hx hy, h0 _ (by omega)] at q
    exact q.symm, fun g x y hx hy => by
    rw [h1 x y hx hy, h0 _ (by omega)]
    exact (g x y hx hy).symm⟩

