noncomputable def bs_f : Nat → Nat
  | 0 => 1
  | n + 1 => (n + 1) * bs_f n
theorem bs_f_pos : ∀ n, 0 < bs_f n := fun n => by
  induction n with
  | zero => decide
  | succ n ih => exact Nat.mul_pos (Nat.succ_pos n) ih
/-- the free place of a mask with s free ones ahead of it, from a on -/
noncomputable def bs_nf (t : Nat) : Nat → Nat → Nat → Nat
  | 0, a, _ => a
  | m + 1, a, s => if t.testBit a = true then bs_nf t m (a + 1) s else if s = 0 then a else bs_nf t m (a + 1) (s - 1)
theorem pm_fr_add {t a : Nat} : ∀ n m, a ≤ m → m ≤ n → pm_fr t a n = pm_fr t a m + pm_fr t m n := fun n => by
  induction n with
  | zero =>
    intro m h1 h2
    have e : m = 0 := by omega
    subst e
    rfl
  | succ n ih =>
    intro m h1 h2
    by_cases e : m = n + 1
    · subst e
      rw [pm_fr_C (t := t) (a := n + 1) (n + 1) (Nat.le_refl _)]
      rfl
    · have q := ih m h1 (by omega)
      show pm_fr t a n + (if a ≤ n ∧ t.testBit n = false then 1 else 0) = pm_fr t a m + (pm_fr t m n + (if m ≤ n ∧ t.testBit n = false then 1 else 0))
      rw [q]
      by_cases b : t.testBit n = false
      · rw [if_pos ⟨by omega, b⟩, if_pos ⟨by omega, b⟩]; omega
      · rw [if_neg (fun x => b x.2), if_neg (fun x => b x.2)]; omega
theorem pm_fr_one {t a : Nat} : pm_fr t a (a + 1) = if t.testBit a = false then 1 else 0 := by
  show pm_fr t a a + (if a ≤ a ∧ t.testBit a = false then 1 else 0) = _
  rw [pm_fr_C a (Nat.le_refl _), Nat.zero_add]
  by_cases b : t.testBit a = false
  · rw [if_pos ⟨Nat.le_refl _, b⟩, if_pos b]
  · rw [if_neg (fun x => b x.2), if_neg b]
/-- it is where one says -/
theorem bs_nf_eq {t i : Nat} (hi : t.testBit i = false) : ∀ m a, a ≤ i → i < a + m → bs_nf t m a (pm_fr t a i) = i := fun m => by
  induction m with
  | zero => intro a h1 h2; omega
  | succ m ih =>
    intro a h1 h2
    show (if t.testBit a = true then bs_nf t m (a + 1) (pm_fr t a i) else if pm_fr t a i = 0 then a else bs_nf t m (a + 1) (pm_fr t a i - 1)) = i
    by_cases e : a = i
    · subst e
      rw [if_neg (by rw [hi]; decide), if_pos (pm_fr_C a (Nat.le_refl _))]
    · have q := pm_fr_add (t := t) (a := a) i (a + 1) (by omega) (by omega)
      rw [pm_fr_one] at q
      cases b : t.testBit a with
      | true =>
        rw [b, if_neg (by decide), Nat.zero_add] at q
        rw [if_pos rfl, q]
        exact ih (a + 1) (by omega) (by omega)
      | false =>
        rw [b, if_pos rfl] at q
        rw [if_neg (by decide), if_neg (by omega), show pm_fr t a i - 1 = pm_fr t (a + 1) i by omega]
        exact ih (a + 1) (by omega) (by omega)
noncomputable def bs_seq (n : Nat) : Nat → Nat → Nat → List Nat
  | 0, _, _ => []
  | r + 1, t, k => bs_nf t n 0 (k / bs_f r) :: bs_seq n r (t ||| 2 ^ bs_nf t n 0 (k / bs_f r)) (k % bs_f r)
theorem bs_seq_len {n : Nat} : ∀ r t k, (bs_seq n r t k).length = r := fun r => by
  induction r with
  | zero => intro t k; rfl
  | succ r ih =>
    intro t k
    show (bs_seq n r _ _).length + 1 = r + 1
    rw [ih]
/-- the rows that begin with a free place -/
theorem bs_seq_at {n r t i j : Nat} (hi : t.testBit i = false) (hn : i < n) (hj : j < bs_f r) : bs_seq n (r + 1) t (pm_fr t 0 i * bs_f r + j) = i :: bs_seq n r (t ||| 2 ^ i) j := by
  have hp := bs_f_pos r
  have e1 : (pm_fr t 0 i * bs_f r + j) / bs_f r = pm_fr t 0 i := by
    rw [Nat.add_comm, Nat.add_mul_div_right _ _ hp, Nat.div_eq_of_lt hj, Nat.zero_add]
  have e2 : (pm_fr t 0 i * bs_f r + j) % bs_f r = j := by
    rw [Nat.add_comm, Nat.add_mul_mod_self_right, Nat.mod_eq_of_lt hj]
  have e3 := bs_nf_eq hi n 0 (Nat.zero_le _) (by omega)
  show bs_nf t n 0 ((pm_fr t 0 i * bs_f r + j) / bs_f r) :: bs_seq n r (t ||| 2 ^ bs_nf t n 0 ((pm_fr t 0 i * bs_f r + j) / bs_f r)) ((pm_fr t 0 i * bs_f r + j) % bs_f r) = _
  rw [e1, e2, e3]
/-- how late a row is in all: days C of a place behind a lot, its lot L, its due day D -/
noncomputable def bs_sum (C : Nat → Int → Int) (L D : Nat → Int) : List Nat → Int → Int → Int
  | [], _, _ => 0
  | p :: q, d, a => max 0 (d + C p a - D p) + bs_sum C L D q (d + C p a) (L p)
theorem bs_sum_nn {C : Nat → Int → Int} {L D : Nat → Int} : ∀ q d a, 0 ≤ bs_sum C L D q d a := fun q => by
  induction q with
  | nil => intro d a; exact Int.le_refl _
  | cons p q ih =>
    intro d a
    have h := ih (d + C p a) (L p)
    show 0 ≤ max 0 (d + C p a - D p) + bs_sum C L D q (d + C p a) (L p)
    omega
/-- the first least among the numbers below c -/
def bs_fm (f : Nat → Int) (c : Nat) (b : Int) (k : Nat) : Prop := k < c ∧ b = f k ∧ (∀ j, j < c → b ≤ f j) ∧ (∀ j, j < k → b < f j)
theorem bs_fm.uniq {f : Nat → Int} {c : Nat} {b b' : Int} {k k' : Nat} (h : bs_fm f c b k) (g : bs_fm f c b' k') : b = b' ∧ k = k' := by
  obtain ⟨h1, h2, h3, h4⟩ := h
  obtain ⟨g1, g2, g3, g4⟩ := g
  have e1 := h3 k' g1
  have e2 := g3 k h1
  rcases Nat.lt_trichotomy k k' with q | q | q
  · have := g4 k q
    omega
  · subst q
    exact ⟨by omega, rfl⟩
  · have := h4 k' q
    omega
theorem bs_fm.zero {f : Nat → Int} : bs_fm f 1 (f 0) 0 := ⟨by decide, rfl, fun j hj => by rw [show j = 0 by omega]; exact Int.le_refl _, fun j hj => by omega⟩
theorem bs_fm.less {f : Nat → Int} {c : Nat} {b : Int} {k : Nat} (h : bs_fm f c b k) (g : f c < b) : bs_fm f (c + 1) (f c) c := ⟨by omega, rfl, fun j hj => by
  by_cases e : j = c
  · rw [e]; exact Int.le_refl _
  · have := h.2.2.1 j (by omega)
    omega, fun j hj => by
  have := h.2.2.1 j hj
  omega⟩
theorem bs_fm.block {f : Nat → Int} {c m : Nat} {b : Int} {k : Nat} (h : bs_fm f c b k) (g : ∀ j, c ≤ j → j < c + m → b ≤ f j) : bs_fm f (c + m) b k := ⟨by have := h.1; omega, h.2.1, fun j hj => by
  by_cases e : j < c
  · exact h.2.2.1 j e
  · exact g j (by omega) hj, h.2.2.2⟩
/-- what is known behind c numbers: nothing yet, or the first least of them -/
def bs_st (f : Nat → Int) (sq : Nat → List Nat) (c : Nat) (late : Int) (R : List Nat → Prop) : Prop := (c = 0 ∧ late = 2147483647) ∨ (∃ k, bs_fm f c late k ∧ R (sq k))
/-- a node of the search: all that begin as it does -/
def bs_nd (C : Nat → Int → Int) (L D : Nat → Int) (f : Nat → Int) (n c : Nat) (pre : List Nat) (r t : Nat) (d a s : Int) : Prop := ∀ j, j < bs_f r → bs_seq n n 0 (c + j) = pre ++ bs_seq n r t j ∧ f (c + j) = s + bs_sum C L D (bs_seq n r t j) d a
theorem bs_nd.child {C : Nat → Int → Int} {L D : Nat → Int} {f : Nat → Int} {n c : Nat} {pre : List Nat} {r t i : Nat} {d a s : Int} (h : bs_nd C L D f n c pre (r + 1) t d a s) (hi : t.testBit i = false) (hn : i < n) (hr : pm_fr t 0 i < r + 1) : bs_nd C L D f n (c + pm_fr t 0 i * bs_f r) (pre ++ [i]) r (t ||| 2 ^ i) (d + C i a) (L i) (s + max 0 (d + C i a - D i)) := fun j hj => by
  have hb : pm_fr t 0 i * bs_f r + j < bs_f (r + 1) := by
    show _ < (r + 1) * bs_f r
    have := Nat.mul_le_mul_right (bs_f r) (show pm_fr t 0 i + 1 ≤ r + 1 by omega)
    rw [Nat.add_mul, Nat.one_mul] at this
    omega
  obtain ⟨h1, h2⟩ := h _ hb
  rw [bs_seq_at hi hn hj] at h1 h2
  refine ⟨?_, ?_⟩
  · rw [Nat.add_assoc, h1, List.append_assoc]
    rfl
  · rw [Nat.add_assoc, h2]
    show s + (max 0 (d + C i a - D i) + bs_sum C L D (bs_seq n r (t ||| 2 ^ i) j) (d + C i a) (L i)) = _
    omega
theorem bs_st.skip {C : Nat → Int → Int} {L D : Nat → Int} {f : Nat → Int} {n c : Nat} {pre : List Nat} {r t : Nat} {d a s late : Int} {R : List Nat → Prop} (h : bs_st f (bs_seq n n 0) c late R) (g : bs_nd C L D f n c pre r t d a s) (hs : late ≤ s) (hb : s < 2147483647) : bs_st f (bs_seq n n 0) (c + bs_f r) late R := by
  rcases h with ⟨h1, h2⟩ | ⟨k, h1, h2⟩
  · omega
  · refine Or.inr ⟨k, h1.block (fun j j1 j2 => ?_), h2⟩
    obtain ⟨-, e⟩ := g (j - c) (by omega)
    have := bs_sum_nn (C := C) (L := L) (D := D) (bs_seq n r t (j - c)) d a
    rw [show c + (j - c) = j by omega] at e
    omega
theorem bs_st.leaf {C : Nat → Int → Int} {L D : Nat → Int} {f : Nat → Int} {n c : Nat} {pre : List Nat} {t : Nat} {d a s late : Int} {R R' : List Nat → Prop} (h : bs_st f (bs_seq n n 0) c late R) (g : bs_nd C L D f n c pre 0 t d a s) (hs : s < late) (hR : R' pre) : bs_st f (bs_seq n n 0) (c + bs_f 0) s R' := by
  obtain ⟨e1, e2⟩ := g 0 (by decide)
  have e1 : bs_seq n n 0 c = pre ++ [] := e1
  have e2 : f c = s + 0 := e2
  rw [List.append_nil] at e1
  have e3 : s = f c := by omega
  rcases h with ⟨h1, h2⟩ | ⟨k, h1, h2⟩
  · subst h1
    exact Or.inr ⟨0, by rw [e3]; exact bs_fm.zero, by rw [e1]; exact hR⟩
  · exact Or.inr ⟨c, by rw [e3]; exact h1.less (by omega), by rw [e1]; exact hR⟩
/-- the whole search begins -/
theorem bs_nd.root {C : Nat → Int → Int} {L D : Nat → Int} {n : Nat} {d a : Int} : bs_nd C L D (fun k => bs_sum C L D (bs_seq n n 0 k) d a) n 0 [] n 0 d a 0 := fun j _ => by
  rw [Nat.zero_add]
  exact ⟨rfl, (Int.zero_add _).symm⟩
/-- how many of the first orders are open; which order stands at a place of them -/
noncomputable def bs_no (d : List Int32) : Nat → Nat
  | 0 => 0
  | m + 1 => bs_no d m + (if (d.getD m 0).toInt < 0 then 1 else 0)
noncomputable def bs_pos (d : List Int32) : Nat → Nat → Nat
  | 0, _ => 0
  | m + 1, p => if (d.getD m 0).toInt < 0 ∧ bs_no d m = p then m else bs_pos d m p
theorem bs_no_le {d : List Int32} {a : Nat} : ∀ b, a ≤ b → bs_no d a ≤ bs_no d b := fun b => by
  induction b with
  | zero => intro h; rw [show a = 0 by omega]; exact Nat.le_refl _
  | succ b ih =>
    intro h
    by_cases e : a = b + 1
    · rw [e]; exact Nat.le_refl _
    · have := ih (by omega)
      show bs_no d a ≤ bs_no d b + (if (d.getD b 0).toInt < 0 then 1 else 0)
      omega
theorem bs_no_s {d : List Int32} {m : Nat} (h : (d.getD m 0).toInt < 0) : bs_no d (m + 1) = bs_no d m + 1 := by
  show bs_no d m + (if (d.getD m 0).toInt < 0 then 1 else 0) = _
  rw [if_pos h]
theorem bs_no_n {d : List Int32} {m : Nat} (h : ¬ (d.getD m 0).toInt < 0) : bs_no d (m + 1) = bs_no d m := by
  show bs_no d m + (if (d.getD m 0).toInt < 0 then 1 else 0) = _
  rw [if_neg h]
  rfl
theorem bs_pos_at {d : List Int32} {j : Nat} (hj : (d.getD j 0).toInt < 0) : ∀ m, j < m → bs_pos d m (bs_no d j) = j := fun m => by
  induction m with
  | zero => intro h; omega
  | succ m ih =>
    intro h
    show (if (d.getD m 0).toInt < 0 ∧ bs_no d m = bs_no d j then m else bs_pos d m (bs_no d j)) = j
    by_cases e : j = m
    · subst e
      rw [if_pos ⟨hj, rfl⟩]
    · have q := bs_no_le (d := d) (a := j + 1) m (by omega)
      rw [bs_no_s hj] at q
      rw [if_neg (fun x => by omega)]
      exact ih (by omega)
theorem bs_pos_ex {d : List Int32} {p : Nat} : ∀ m, p < bs_no d m → ∃ j, j < m ∧ (d.getD j 0).toInt < 0 ∧ bs_no d j = p := fun m => by
  induction m with
  | zero =>
    intro h
    have h : p < 0 := h
    omega
  | succ m ih =>
    intro h
    by_cases c : (d.getD m 0).toInt < 0
    · rw [bs_no_s c] at h
      by_cases e : p = bs_no d m
      · exact ⟨m, by omega, c, e.symm⟩
      · obtain ⟨j, h1, h2⟩ := ih (by omega)
        exact ⟨j, by omega, h2⟩
    · rw [bs_no_n c] at h
      obtain ⟨j, h1, h2⟩ := ih h
      exact ⟨j, by omega, h2⟩
/-- the open orders are laid out -/
def bs_op (d : List Int32) (m : Nat) (op : List Int32) : Prop := ∀ j, j < m → (d.getD j 0).toInt < 0 → op.getD (bs_no d j) 0 = nI j
theorem bs_op.at {d : List Int32} {m : Nat} {op : List Int32} (h : bs_op d m op) {p : Nat} (hp : p < bs_no d m) : op.getD p 0 = nI (bs_pos d m p) ∧ bs_pos d m p < m := by
  obtain ⟨j, h1, h2, h3⟩ := bs_pos_ex m hp
  subst h3
  rw [bs_pos_at h2 m h1]
  exact ⟨h j h1 h2, h1⟩
/-- days of an order behind a lot -/
noncomputable def bs_days (gi : Nat → Int32) (ga : Nat → List Int32) (o : Nat) (a : Int) : Int := (((ga 0).getD o 0).toInt + (gi 3).toInt - 1) / (gi 3).toInt + (if ((ga 1).getD o 0).toInt = a then 0 else (gi 4).toInt)
noncomputable def bs_O (gi : Nat → Int32) (ga : Nat → List Int32) (p : Nat) : Nat := bs_pos (ga 3) (gi 7).toInt.toNat p
noncomputable def bs_C (gi : Nat → Int32) (ga : Nat → List Int32) (p : Nat) (a : Int) : Int := bs_days gi ga (bs_O gi ga p) a
noncomputable def bs_L (gi : Nat → Int32) (ga : Nat → List Int32) (p : Nat) : Int := ((ga 1).getD (bs_O gi ga p) 0).toInt
noncomputable def bs_D (gi : Nat → Int32) (ga : Nat → List Int32) (p : Nat) : Int := ((ga 2).getD (bs_O gi ga p) 0).toInt
noncomputable def bs_n (gi : Nat → Int32) (ga : Nat → List Int32) : Nat := bs_no (ga 3) (gi 7).toInt.toNat
/-- how late row k of all is -/
noncomputable def bs_v (gi : Nat → Int32) (ga : Nat → List Int32) (k : Nat) : Int := bs_sum (bs_C gi ga) (bs_L gi ga) (bs_D gi ga) (bs_seq (bs_n gi ga) (bs_n gi ga) 0 k) (gi 5).toInt (gi 6).toInt
/-- a row of orders that is row q of places -/
def bs_rw (gi : Nat → Int32) (ga : Nat → List Int32) (row : List Int32) (q : List Nat) : Prop := ∀ i, i < bs_n gi ga → row.getD i 0 = nI (bs_O gi ga (q.getD i 0))
/-- the best row -/
def bs_W (gi : Nat → Int32) (ga : Nat → List Int32) (late : Int) (row : List Int32) : Prop := ∃ k, bs_fm (bs_v gi ga) (bs_f (bs_n gi ga)) late k ∧ bs_rw gi ga row (bs_seq (bs_n gi ga) (bs_n gi ga) 0 k)
theorem bs_W.uniq {gi : Nat → Int32} {ga : Nat → List Int32} {a b : Int} {x y : List Int32} (h : bs_W gi ga a x) (g : bs_W gi ga b y) : a = b ∧ ∀ i, i < bs_n gi ga → x.getD i 0 = y.getD i 0 := by
  obtain ⟨k, h1, h2⟩ := h
  obtain ⟨l, g1, g2⟩ := g
  obtain ⟨e1, e2⟩ := h1.uniq g1
  subst e2
  exact ⟨e1, fun i hi => by rw [h2 i hi, g2 i hi]⟩
/-- what best and bestAt answer -/
def bs_Pbest (gi : Nat → Int32) (ga : Nat → List Int32) (v : Int32) : Prop := (7 < bs_n gi ga ∧ v.toInt = -3) ∨ (bs_n gi ga ≤ 7 ∧ ∃ row, bs_W gi ga v.toInt row)
def bs_PbestAt (gi : Nat → Int32) (ga : Nat → List Int32) (i v : Int32) : Prop := (7 < bs_n gi ga ∧ v.toInt = -3) ∨ (bs_n gi ga ≤ 7 ∧ ¬ (0 ≤ i.toInt ∧ i.toInt < bs_n gi ga) ∧ v.toInt = -9) ∨ (bs_n gi ga ≤ 7 ∧ (0 ≤ i.toInt ∧ i.toInt < bs_n gi ga) ∧ ∃ late row, bs_W gi ga late row ∧ v = row.getD i.toInt.toNat 0)
theorem rel_best {gi : Nat → Int32} {ga : Nat → List Int32} {v u : Int32} (h : bs_Pbest gi ga v) (g : bs_Pbest gi ga u) : v = u := by
  refine i_eq.mpr ?_
  rcases h with ⟨h0, h1⟩ | ⟨h0, r, h1⟩
  · rcases g with ⟨g0, g1⟩ | ⟨g0, -⟩
    · omega
    · omega
  · rcases g with ⟨g0, g1⟩ | ⟨g0, s, g1⟩
    · omega
    · exact (h1.uniq g1).1
theorem rel_bestAt {gi : Nat → Int32} {ga : Nat → List Int32} {i v u : Int32} (h : bs_PbestAt gi ga i v) (g : bs_PbestAt gi ga i u) : v = u := by
  rcases h with ⟨h0, h1⟩ | ⟨h0, h1, h2⟩ | ⟨h0, h1, a, r, h2, h3⟩
  · rcases g with ⟨g0, g1⟩ | ⟨g0, -⟩ | ⟨g0, -⟩
    · exact i_eq.mpr (by omega)
    · omega
    · omega
  · rcases g with ⟨g0, g1⟩ | ⟨g0, g1, g2⟩ | ⟨g0, g1, -⟩
    · omega
    · exact i_eq.mpr (by omega)
    · exact absurd g1 h1
  · rcases g with ⟨g0, g1⟩ | ⟨g0, g1, g2⟩ | ⟨g0, g1, b, s, g2, g3⟩
    · omega
    · exact absurd h1 g1
    · rw [h3, g3]
      exact (h2.uniq g2).2 _ (by omega)
theorem bs_ga {pre : List Nat} {x i : Nat} (h : i < pre.length) : (pre ++ [x]).getD i 0 = pre.getD i 0 := by
  rw [List.getD_eq_getElem?_getD, List.getD_eq_getElem?_getD, List.getElem?_append_left h]
theorem bs_gb {pre : List Nat} {x : Nat} : (pre ++ [x]).getD pre.length 0 = x := by
  rw [List.getD_eq_getElem?_getD, List.getElem?_append_right (Nat.le_refl _), Nat.sub_self]
  rfl
theorem j_ed {z a b : Int} (h : z = a / b) (ha : 0 ≤ a) (hb : 0 ≤ b) : z.toNat = a.toNat / b.toNat := by
  obtain ⟨m, rfl⟩ := Int.eq_ofNat_of_zero_le ha
  obtain ⟨n, rfl⟩ := Int.eq_ofNat_of_zero_le hb
  subst h
  rfl

