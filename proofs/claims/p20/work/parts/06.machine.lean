abbrev pm_A : Type := List Int32 ⊕ (List Int64 ⊕ List (Option Nat))
abbrev pm_C : Type := (Nat × pm_A) ⊕ (Nat × List Value)
abbrev pm_W : Type := List pm_C
/-- the script (none: a run that never looks at it) -/
abbrev pm_S : Type := Option (Nat × (Nat → Int32))
/-- what a step gives: on (pc, locals, stack, world, new cells, new slots); or a call (method, arguments, the stack's rest, its locals); or the end -/
abbrev pm_N : Type := (Nat × List Value × List Value × pm_W × Nat × Nat) ⊕ ((Nat × List Value × List Value × Nat) ⊕ Option Value)
/-- numbers are reckoned out as they come -/
noncomputable def pm_fn {α : Type} (n : Nat) (k : Nat → α) : α := match n with
  | 0 => k 0
  | m + 1 => k (m + 1)
theorem pm_fn_eq {α : Type} (n : Nat) (k : Nat → α) : pm_fn n k = k n := by cases n <;> rfl
noncomputable def pm_fi {α : Type} (x : Int32) (k : Int32 → α) : α := pm_fn x.toBitVec.toNat (fun n => k (Int32.ofBitVec (BitVec.ofNat 32 n)))
theorem pm_fi_eq {α : Type} (x : Int32) (k : Int32 → α) : pm_fi x k = k x := by
  unfold pm_fi
  rw [pm_fn_eq]
  simp
noncomputable def pm_fj {α : Type} (x : Int64) (k : Int64 → α) : α := pm_fn x.toBitVec.toNat (fun n => k (Int64.ofBitVec (BitVec.ofNat 64 n)))
theorem pm_fj_eq {α : Type} (x : Int64) (k : Int64 → α) : pm_fj x k = k x := by
  unfold pm_fj
  rw [pm_fn_eq]
  simp
noncomputable def pm_go (pc : Nat) (ls st : List Value) (w : pm_W) : Option pm_N := some (.inl (pc, ls, st, w, 0, 0))
noncomputable def pm_gi (pc : Nat) (ls : List Value) (x : Int32) (st : List Value) (w : pm_W) : Option pm_N := pm_fi x (fun z => pm_go pc ls (.int z :: st) w)
noncomputable def pm_gl (pc : Nat) (ls : List Value) (x : Int64) (st : List Value) (w : pm_W) : Option pm_N := pm_fj x (fun z => pm_go pc ls (.long z :: st) w)
theorem pm_gi_eq {pc : Nat} {ls st : List Value} {x : Int32} {w : pm_W} : pm_gi pc ls x st w = some (.inl (pc, ls, .int x :: st, w, 0, 0)) := pm_fi_eq _ _
theorem pm_gl_eq {pc : Nat} {ls st : List Value} {x : Int64} {w : pm_W} : pm_gl pc ls x st w = some (.inl (pc, ls, .long x :: st, w, 0, 0)) := pm_fj_eq _ _
/-- what stands on the stack -/
noncomputable def pm_i {α : Type} (st : List Value) (F : Int32 → List Value → Option α) : Option α := match st with
  | .int x :: r => F x r
  | _ => none
noncomputable def pm_ii {α : Type} (st : List Value) (F : Int32 → Int32 → List Value → Option α) : Option α := match st with
  | .int y :: .int x :: r => F x y r
  | _ => none
noncomputable def pm_l {α : Type} (st : List Value) (F : Int64 → List Value → Option α) : Option α := match st with
  | .long x :: r => F x r
  | _ => none
noncomputable def pm_ll {α : Type} (st : List Value) (F : Int64 → Int64 → List Value → Option α) : Option α := match st with
  | .long y :: .long x :: r => F x y r
  | _ => none
noncomputable def pm_li {α : Type} (st : List Value) (F : Int64 → Int32 → List Value → Option α) : Option α := match st with
  | .int y :: .long x :: r => F x y r
  | _ => none
theorem pm_i_inv {α : Type} {st : List Value} {F : Int32 → List Value → Option α} {z : α} (h : pm_i st F = some z) : ∃ x r, st = .int x :: r ∧ F x r = some z := by
  unfold pm_i at h
  split at h
  · exact ⟨_, _, rfl, h⟩
  · cases h
theorem pm_ii_inv {α : Type} {st : List Value} {F : Int32 → Int32 → List Value → Option α} {z : α} (h : pm_ii st F = some z) : ∃ x y r, st = .int y :: .int x :: r ∧ F x y r = some z := by
  unfold pm_ii at h
  split at h
  · exact ⟨_, _, _, rfl, h⟩
  · cases h
theorem pm_l_inv {α : Type} {st : List Value} {F : Int64 → List Value → Option α} {z : α} (h : pm_l st F = some z) : ∃ x r, st = .long x :: r ∧ F x r = some z := by
  unfold pm_l at h
  split at h
  · exact ⟨_, _, rfl, h⟩
  · cases h
theorem pm_ll_inv {α : Type} {st : List Value} {F : Int64 → Int64 → List Value → Option α} {z : α} (h : pm_ll st F = some z) : ∃ x y r, st = .long y :: .long x :: r ∧ F x y r = some z := by
  unfold pm_ll at h
  split at h
  · exact ⟨_, _, _, rfl, h⟩
  · cases h
theorem pm_li_inv {α : Type} {st : List Value} {F : Int64 → Int32 → List Value → Option α} {z : α} (h : pm_li st F = some z) : ∃ x y r, st = .int y :: .long x :: r ∧ F x y r = some z := by
  unfold pm_li at h
  split at h
  · exact ⟨_, _, _, rfl, h⟩
  · cases h
/-- category 1 -/
noncomputable def pm_c1 (v : Value) : Bool := match v with
  | .long _ => false
  | .double _ => false
  | _ => true
/-- locals: .null is 'nothing known' -/
noncomputable def pm_cl (ls : List Value) (i : Nat) : List Value := match i with
  | 0 => ls
  | j + 1 => match ls[j]? with
    | some v => bif pm_c1 v then ls else ls.set j .null
    | none => ls
noncomputable def pm_s1 (ls : List Value) (i : Nat) (v : Value) : List Value := (pm_cl ls i).set i v
noncomputable def pm_s2 (ls : List Value) (i : Nat) (v : Value) : List Value := ((pm_cl ls i).set i v).set (i + 1) .null
noncomputable def pm_iload (nx : Nat) (ls : List Value) (k : Nat) (st : List Value) (w : pm_W) : Option pm_N := match ls[k]? with
  | some (.int x) => pm_go nx ls (.int x :: st) w
  | _ => none
noncomputable def pm_lload (nx : Nat) (ls : List Value) (k : Nat) (st : List Value) (w : pm_W) : Option pm_N := match ls[k]? with
  | some (.long x) => pm_go nx ls (.long x :: st) w
  | _ => none
noncomputable def pm_aload (nx : Nat) (ls : List Value) (k : Nat) (st : List Value) (w : pm_W) : Option pm_N := match ls[k]? with
  | some (.ref x) => pm_go nx ls (.ref x :: st) w
  | some (.retAddr x) => pm_go nx ls (.retAddr x :: st) w
  | _ => none
noncomputable def pm_istore (nx : Nat) (ls : List Value) (k : Nat) (st : List Value) (w : pm_W) : Option pm_N := pm_i st (fun x r => bif Nat.blt k ls.length then pm_go nx (pm_s1 ls k (.int x)) r w else none)
noncomputable def pm_lstore (nx : Nat) (ls : List Value) (k : Nat) (st : List Value) (w : pm_W) : Option pm_N := pm_l st (fun x r => bif Nat.blt (k + 1) ls.length then pm_go nx (pm_s2 ls k (.long x)) r w else none)
noncomputable def pm_astore (nx : Nat) (ls : List Value) (k : Nat) (st : List Value) (w : pm_W) : Option pm_N := match st with
  | .ref x :: r => bif Nat.blt k ls.length then pm_go nx (pm_s1 ls k (.ref x)) r w else none
  | _ => none
noncomputable def pm_iinc (nx : Nat) (ls : List Value) (k : Nat) (n : Int) (st : List Value) (w : pm_W) : Option pm_N := match ls[k]? with
  | some (.int x) => pm_fi (x + Int32.ofInt n) (fun z => pm_go nx (pm_s1 ls k (.int z)) st w)
  | _ => none
noncomputable def pm_icmp (c : Jvm.ClassFile.Cond) (x y : Int32) : Bool := match c with
  | .eq => decide (x = y)
  | .ne => !decide (x = y)
  | .lt => decide (x < y)
  | .ge => decide (y ≤ x)
  | .gt => decide (y < x)
  | .le => decide (x ≤ y)
noncomputable def pm_jmp (pc : Nat) (off : Int) (ls st : List Value) (w : pm_W) : Option pm_N := bif decide ((pc : Int) + off < 0) then none else pm_fn ((pc : Int) + off).toNat (fun t => pm_go t ls st w)
/-- arrays: kinds 0 int, 1 boolean, 2 long, 3 of Beams -/
noncomputable def pm_ld (t nx : Nat) (ls st : List Value) (w : pm_W) : Option pm_N := match st with
  | .int i :: .ref q :: r => (match w[q]? with
    | some (.inl (t', .inl xs)) => bif Nat.beq t' t && !decide (i < 0) then pm_fn i.toNatClampNeg (fun k => match xs[k]? with
      | some v => pm_go nx ls (.int v :: r) w
      | none => none) else none
    | _ => none)
  | _ => none
noncomputable def pm_sld (sc : pm_S) (nx : Nat) (ls st : List Value) (w : pm_W) : Option pm_N := match st with
  | .int i :: .retAddr _ :: r => (match sc with
    | some (L, xs) => bif !decide (i < 0) && Nat.blt i.toNatClampNeg L then pm_go nx ls (.int (xs i.toNatClampNeg) :: r) w else none
    | none => none)
  | _ => pm_ld 0 nx ls st w
noncomputable def pm_lld (nx : Nat) (ls st : List Value) (w : pm_W) : Option pm_N := match st with
  | .int i :: .ref q :: r => (match w[q]? with
    | some (.inl (t', .inr (.inl xs))) => bif Nat.beq t' 2 && !decide (i < 0) then pm_fn i.toNatClampNeg (fun k => match xs[k]? with
      | some v => pm_go nx ls (.long v :: r) w
      | none => none) else none
    | _ => none)
  | _ => none
noncomputable def pm_ald (nx : Nat) (ls st : List Value) (w : pm_W) : Option pm_N := match st with
  | .int i :: .ref q :: r => (match w[q]? with
    | some (.inl (t', .inr (.inr xs))) => bif Nat.beq t' 3 && !decide (i < 0) then pm_fn i.toNatClampNeg (fun k => match xs[k]? with
      | some (some v) => pm_go nx ls (.ref v :: r) w
      | _ => none) else none
    | _ => none)
  | _ => none
noncomputable def pm_st (t : Nat) (f : Int32 → Int32) (nx : Nat) (ls st : List Value) (w : pm_W) : Option pm_N := match st with
  | .int x :: .int i :: .ref q :: r => (match w[q]? with
    | some (.inl (t', .inl xs)) => bif Nat.beq t' t && !decide (i < 0) then pm_fn i.toNatClampNeg (fun k => bif Nat.blt k xs.length then pm_go nx ls r (w.set q (.inl (t, .inl (xs.set k (f x))))) else none) else none
    | _ => none)
  | _ => none
noncomputable def pm_lst (nx : Nat) (ls st : List Value) (w : pm_W) : Option pm_N := match st with
  | .long x :: .int i :: .ref q :: r => (match w[q]? with
    | some (.inl (t', .inr (.inl xs))) => bif Nat.beq t' 2 && !decide (i < 0) then pm_fn i.toNatClampNeg (fun k => bif Nat.blt k xs.length then pm_go nx ls r (w.set q (.inl (2, .inr (.inl (xs.set k x))))) else none) else none
    | _ => none)
  | _ => none
noncomputable def pm_ast (nx : Nat) (ls st : List Value) (w : pm_W) : Option pm_N := match st with
  | .ref v :: .int i :: .ref q :: r => (match w[q]?, w[v]? with
    | some (.inl (t', .inr (.inr xs))), some (.inr (ci, _)) => bif Nat.beq t' 3 && Nat.beq ci 1 && !decide (i < 0) then pm_fn i.toNatClampNeg (fun k => bif Nat.blt k xs.length then pm_go nx ls r (w.set q (.inl (3, .inr (.inr (xs.set k (some v)))))) else none) else none
    | _, _ => none)
  | _ => none
noncomputable def pm_len (sc : pm_S) (nx : Nat) (ls st : List Value) (w : pm_W) : Option pm_N := match st with
  | .retAddr _ :: r => (match sc with
    | some (L, _) => pm_gi nx ls (Int32.ofNat L) r w
    | none => none)
  | .ref q :: r => (match w[q]? with
    | some (.inl (t, .inl xs)) => bif Nat.blt t 2 then pm_gi nx ls (Int32.ofNat xs.length) r w else none
    | some (.inl (t, .inr (.inl xs))) => bif Nat.beq t 2 then pm_gi nx ls (Int32.ofNat xs.length) r w else none
    | _ => none)
  | _ => none
/-- System.arraycopy of int rows, or of long rows -/
noncomputable def pm_cpy {α : Type} (xs ys : List α) (sp dp n : Nat) : List α := ys.take dp ++ (xs.drop sp).take n ++ ys.drop (dp + n)
noncomputable def pm_copy (nx : Nat) (ls st : List Value) (w : pm_W) : Option pm_N := match st with
  | .int n :: .int dp :: .ref q :: .int sp :: .ref p :: r => bif decide (n < 0) || decide (dp < 0) || decide (sp < 0) || Nat.beq p q || Nat.blt 8 ((r.map fun v => v.category).sum) then none else (match w[p]?, w[q]? with
    | some (.inl (t, .inl xs)), some (.inl (t', .inl ys)) => bif Nat.beq t 0 && Nat.beq t' 0 && Nat.ble (sp.toNatClampNeg + n.toNatClampNeg) xs.length && Nat.ble (dp.toNatClampNeg + n.toNatClampNeg) ys.length then pm_go nx ls r (w.set q (.inl (0, .inl (pm_cpy xs ys sp.toNatClampNeg dp.toNatClampNeg n.toNatClampNeg)))) else none
    | some (.inl (t, .inr (.inl xs))), some (.inl (t', .inr (.inl ys))) => bif Nat.beq t 2 && Nat.beq t' 2 && Nat.ble (sp.toNatClampNeg + n.toNatClampNeg) xs.length && Nat.ble (dp.toNatClampNeg + n.toNatClampNeg) ys.length then pm_go nx ls r (w.set q (.inl (2, .inr (.inl (pm_cpy xs ys sp.toNatClampNeg dp.toNatClampNeg n.toNatClampNeg))))) else none
    | _, _ => none)
  | _ => none
/-- fields -/
noncomputable def pm_okF (ty : FieldType) (v : Value) : Bool := match ty, v with
  | .int, .int _ => true
  | .boolean, .int x => decide (x = 0) || decide (x = 1)
  | .array _, .ref _ => true
  | .object _, .ref _ => true
  | _, _ => false
noncomputable def pm_get (a b nx : Nat) (ls st : List Value) (w : pm_W) : Option pm_N := match st with
  | .ref q :: r => (match w[q]? with
    | some (.inr (ci, fs)) => bif Nat.beq ci a then (match fs[b]? with
      | some v => pm_go nx ls (v :: r) w
      | none => none) else none
    | _ => none)
  | _ => none
noncomputable def pm_put (a b nx : Nat) (ls st : List Value) (w : pm_W) : Option pm_N := match st with
  | v :: .ref q :: r => (match w[q]? with
    | some (.inr (ci, fs)) => bif Nat.beq ci a && pm_okF (pm_ty a b) v && Nat.blt b fs.length then pm_go nx ls r (w.set q (.inr (a, fs.set b v))) else none
    | _ => none)
  | _ => none
/-- no reference to what isn't there yet -/
noncomputable def pm_okv (n : Nat) (v : Value) : Bool := match v with
  | .ref k => Nat.blt k n
  | _ => true
noncomputable def pm_okl (n : Nat) (vs : List Value) : Bool := vs.all (pm_okv n)
noncomputable def pm_oko (n : Nat) (o : Option Nat) : Bool := match o with
  | some k => Nat.blt k n
  | none => true
noncomputable def pm_okC (n : Nat) (c : pm_C) : Bool := match c with
  | .inr (_, fs) => pm_okl n fs
  | .inl (_, .inr (.inr rs)) => rs.all (pm_oko n)
  | _ => true
noncomputable def pm_okW (w : pm_W) : Bool := w.all (pm_okC w.length)
noncomputable def pm_dfl (a N : Nat) : List Value := (List.range N).map (fun k => defaultValue (pm_ty a k))
noncomputable def pm_new (a N nx : Nat) (ls st : List Value) (w : pm_W) : Option pm_N := bif pm_okW w && pm_okl w.length ls && pm_okl w.length st then some (.inl (nx, ls, .ref w.length :: st, w ++ [.inr (a, pm_dfl a N)], 1, N)) else none
noncomputable def pm_mk (t : Nat) (n : Nat) : pm_A := bif Nat.blt t 2 then .inl (List.replicate n 0) else bif Nat.beq t 2 then .inr (.inl (List.replicate n 0)) else .inr (.inr (List.replicate n none))
noncomputable def pm_newa (t nx : Nat) (ls st : List Value) (w : pm_W) : Option pm_N := pm_i st (fun n r => bif pm_okW w && pm_okl w.length ls && pm_okl w.length st && !decide (n < 0) && Nat.ble n.toNatClampNeg 4096 then pm_fn n.toNatClampNeg (fun k => some (.inl (nx, ls, .ref w.length :: r, w ++ [.inl (t, pm_mk t k)], 1, k))) else none)
/-- calls -/
noncomputable def pm_cat (r : List Value) : Nat := (r.map fun v => v.category).sum
noncomputable def pm_callV (a b c d : Nat) (st : List Value) (w : pm_W) : Option pm_N := bif Nat.blt (st.take b).length b then none else match st.drop b with
  | .ref q :: r => (match w[q]? with
    | some (.inr (ci, _)) => bif Nat.beq ci c && Nat.ble (pm_cat r) 8 then some (.inr (.inl (a, .ref q :: (st.take b).reverse, r, d))) else none
    | _ => none)
  | _ => none
noncomputable def pm_callI (a b d : Nat) (st : List Value) : Option pm_N := bif Nat.blt (st.take b).length b then none else match st.drop b with
  | .ref q :: r => bif Nat.ble (pm_cat r) 8 then some (.inr (.inl (a, .ref q :: (st.take b).reverse, r, d))) else none
  | _ => none
noncomputable def pm_callS (a b d : Nat) (st : List Value) : Option pm_N := bif Nat.blt (st.take b).length b then none else bif Nat.ble (pm_cat (st.drop b)) 8 then some (.inr (.inl (a, (st.take b).reverse, st.drop b, d))) else none
noncomputable def pm_obj (nx : Nat) (ls st : List Value) (w : pm_W) : Option pm_N := match st with
  | .ref _ :: r => bif Nat.ble (pm_cat r) 8 then pm_go nx ls r w else none
  | _ => none
/-- ONE INSTRUCTION; dd: how many frames there is room for -/
noncomputable def pm_x (sc : pm_S) (dd : Nat) (e : pm_E) (pc : Nat) (ls st : List Value) (w : pm_W) : Option pm_N := match e with
  | (ins, nx, a, b, c, d) => match ins with
  | .iconst n => pm_go nx ls (.int (Int32.ofInt n) :: st) w
  | .bipush n => pm_go nx ls (.int (Int8.ofInt n).toInt32 :: st) w
  | .sipush n => pm_go nx ls (.int (Int16.ofInt n).toInt32 :: st) w
  | .lconst n => pm_go nx ls (.long (Int64.ofNat n) :: st) w
  | .ldc _ => pm_go nx ls (.int (Int32.ofNat a) :: st) w
  | .ldc_w _ => pm_go nx ls (.int (Int32.ofNat a) :: st) w
  | .ldc2_w _ => pm_go nx ls (.long (Int64.ofNat a) :: st) w
  | .iload k => pm_iload nx ls k st w
  | .iload_n k => pm_iload nx ls k st w
  | .lload k => pm_lload nx ls k st w
  | .lload_n k => pm_lload nx ls k st w
  | .aload k => pm_aload nx ls k st w
  | .aload_n k => pm_aload nx ls k st w
  | .istore k => pm_istore nx ls k st w
  | .istore_n k => pm_istore nx ls k st w
  | .lstore k => pm_lstore nx ls k st w
  | .lstore_n k => pm_lstore nx ls k st w
  | .astore_n k => pm_astore nx ls k st w
  | .iinc k n => pm_iinc nx ls k n st w
  | .dup => (match st with
    | v :: r => bif pm_c1 v then pm_go nx ls (v :: v :: r) w else none
    | _ => none)
  | .dup2 => (match st with
    | v :: u :: r => bif pm_c1 v && pm_c1 u then pm_go nx ls (v :: u :: v :: u :: r) w else none
    | _ => none)
  | .pop => (match st with
    | v :: r => bif pm_c1 v then pm_go nx ls r w else none
    | _ => none)
  | .iadd => pm_ii st (fun x y r => pm_gi nx ls (x + y) r w)
  | .isub => pm_ii st (fun x y r => pm_gi nx ls (x - y) r w)
  | .imul => pm_ii st (fun x y r => pm_gi nx ls (x * y) r w)
  | .iand => pm_ii st (fun x y r => pm_gi nx ls (x &&& y) r w)
  | .ior => pm_ii st (fun x y r => pm_gi nx ls (x ||| y) r w)
  | .ixor => pm_ii st (fun x y r => pm_gi nx ls (x ^^^ y) r w)
  | .idiv => pm_ii st (fun x y r => bif decide (y = 0) then none else pm_gi nx ls (x / y) r w)
  | .irem => pm_ii st (fun x y r => bif decide (y = 0) then none else pm_gi nx ls (x - x / y * y) r w)
  | .ishl => pm_ii st (fun x y r => pm_gi nx ls (x <<< (y &&& 31)) r w)
  | .ishr => pm_ii st (fun x y r => pm_gi nx ls (x >>> (y &&& 31)) r w)
  | .iushr => pm_ii st (fun x y r => pm_gi nx ls (x.toUInt32 >>> (y.toUInt32 &&& Int32.toUInt32 31)).toInt32 r w)
  | .ineg => pm_i st (fun x r => pm_gi nx ls (-x) r w)
  | .i2l => pm_i st (fun x r => pm_gl nx ls x.toInt64 r w)
  | .l2i => pm_l st (fun x r => pm_gi nx ls x.toInt32 r w)
  | .land => pm_ll st (fun x y r => pm_gl nx ls (x &&& y) r w)
  | .lor => pm_ll st (fun x y r => pm_gl nx ls (x ||| y) r w)
  | .lxor => pm_ll st (fun x y r => pm_gl nx ls (x ^^^ y) r w)
  | .lshl => pm_li st (fun x y r => pm_gl nx ls (x <<< (y.toInt64 &&& 63)) r w)
  | .lushr => pm_li st (fun x y r => pm_gl nx ls (x.toUInt64 >>> (y.toInt64.toUInt64 &&& Int64.toUInt64 63)).toInt64 r w)
  | .lcmp => pm_ll st (fun x y r => pm_gi nx ls (lg_cmp x y) r w)
  | .if_icmp cd _ => pm_ii st (fun x y r => bif pm_icmp cd x y then pm_go a ls r w else pm_go nx ls r w)
  | .ifCond cd _ => pm_i st (fun x r => bif pm_icmp cd x 0 then pm_go a ls r w else pm_go nx ls r w)
  | .goto _ => pm_go a ls st w
  | .tableswitch df lo hi offs => pm_i st (fun x r => bif decide (x.toInt < lo) || decide (hi < x.toInt) then pm_jmp pc df ls r w else match offs[(x.toInt - lo).toNat]? with
    | some off => pm_jmp pc off ls r w
    | none => none)
  | .lookupswitch df ps => pm_i st (fun x r => pm_jmp pc (Op.lookupswitch.offset ps.toList df x.toInt) ls r w)
  | .iaload => pm_sld sc nx ls st w
  | .baload => pm_ld 1 nx ls st w
  | .laload => pm_lld nx ls st w
  | .aaload => pm_ald nx ls st w
  | .iastore => pm_st 0 (fun x => x) nx ls st w
  | .bastore => pm_st 1 (vp_nar .boolean) nx ls st w
  | .lastore => pm_lst nx ls st w
  | .aastore => pm_ast nx ls st w
  | .arraylength => pm_len sc nx ls st w
  | .getfield _ => pm_get a b nx ls st w
  | .putfield _ => pm_put a b nx ls st w
  | .new _ => pm_new a b nx ls st w
  | .newarray .int => pm_newa 0 nx ls st w
  | .newarray .boolean => pm_newa 1 nx ls st w
  | .newarray .long => pm_newa 2 nx ls st w
  | .anewarray _ => pm_newa 3 nx ls st w
  | .invokevirtual _ => pm_callV a b c d st w
  | .invokestatic _ => bif Nat.beq a 999 then (bif Nat.beq dd 0 then none else pm_copy nx ls st w)
      else bif Nat.beq a 997 then pm_ii st (fun x y r => bif Nat.beq dd 0 || Nat.blt 8 (pm_cat r) then none else pm_gi nx ls (if x < y then y else x) r w)
      else bif Nat.beq a 996 then pm_ii st (fun x y r => bif Nat.beq dd 0 || Nat.blt 8 (pm_cat r) then none else pm_gi nx ls (if y < x then y else x) r w)
      else pm_callS a b d st
  | .invokespecial _ => bif Nat.beq a 998 then (bif Nat.beq dd 0 then none else pm_obj nx ls st w) else pm_callI a b d st
  | .ireturn => (match st with
    | [.int x] => bif Nat.beq a 0 || decide (x = 0) || decide (x = 1) then some (.inr (.inr (some (.int x)))) else none
    | _ => none)
  | .return_ => (match st with
    | [] => some (.inr (.inr none))
    | _ => none)
  | _ => none
/-- the locals at a method's entry -/
noncomputable def pm_arg (vs : List Value) : List Value := vs.flatMap (fun v => bif pm_c1 v then [v] else [v, .null])
noncomputable def pm_ent (vs : List Value) (mL : Nat) : List Value := pm_arg vs ++ List.replicate (mL - (pm_arg vs).length) .null
noncomputable def pm_rv (rv : Option Value) (r : List Value) : List Value := match rv with
  | some v => v :: r
  | none => r
abbrev pm_R : Type := Option (Option Value × pm_W × Nat × Nat)
/-- MANY: n steps at most, d frames at most -/
noncomputable def pm_run (sc : pm_S) (n : Nat) : Nat → Nat → Nat → List Value → List Value → pm_W → Nat → Nat → pm_R :=
  Nat.rec (motive := fun _ => Nat → Nat → Nat → List Value → List Value → pm_W → Nat → Nat → pm_R)
    (fun _ _ _ _ _ _ _ _ => none)
    (fun _ ih d mi pc ls st w kc ks => match pm_code mi pc with
      | none => none
      | some e => match pm_x sc d e pc ls st w with
        | none => none
        | some (.inl (pc', ls', st', w', c, s)) => bif Nat.beq (c + s) 0 then ih d mi pc' ls' st' w' kc ks else ih d mi pc' ls' st' w' (kc + c) (ks + s)
        | some (.inr (.inr rv)) => some (rv, w, kc, ks)
        | some (.inr (.inl (mj, as, r, mL))) => match d with
          | 0 => none
          | d' + 1 => bif Nat.blt mL (pm_arg as).length then none else match ih d' mj 0 (pm_ent as mL) [] w 0 0 with
            | none => none
            | some (rv, w', c, s) => bif Nat.beq (c + s) 0 then ih (d' + 1) mi e.2.1 ls (pm_rv rv r) w' kc ks else bif pm_okl w.length ls && pm_okl w.length r then ih (d' + 1) mi e.2.1 ls (pm_rv rv r) w' (kc + c) (ks + s) else none) n
/-- one step of many -/
noncomputable def pm_step (sc : pm_S) (ih : Nat → Nat → Nat → List Value → List Value → pm_W → Nat → Nat → pm_R) (d mi pc : Nat) (ls st : List Value) (w : pm_W) (kc ks : Nat) : pm_R := match pm_code mi pc with
      | none => none
      | some e => match pm_x sc d e pc ls st w with
        | none => none
        | some (.inl (pc', ls', st', w', c, s)) => bif Nat.beq (c + s) 0 then ih d mi pc' ls' st' w' kc ks else ih d mi pc' ls' st' w' (kc + c) (ks + s)
        | some (.inr (.inr rv)) => some (rv, w, kc, ks)
        | some (.inr (.inl (mj, as, r, mL))) => match d with
          | 0 => none
          | d' + 1 => bif Nat.blt mL (pm_arg as).length then none else match ih d' mj 0 (pm_ent as mL) [] w 0 0 with
            | none => none
            | some (rv, w', c, s) => bif Nat.beq (c + s) 0 then ih (d' + 1) mi e.2.1 ls (pm_rv rv r) w' kc ks else bif pm_okl w.length ls && pm_okl w.length r then ih (d' + 1) mi e.2.1 ls (pm_rv rv r) w' (kc + c) (ks + s) else none
theorem pm_run_succ (sc : pm_S) (n d mi pc : Nat) (ls st : List Value) (w : pm_W) (kc ks : Nat) : pm_run sc (n + 1) d mi pc ls st w kc ks = pm_step sc (pm_run sc n) d mi pc ls st w kc ks := rfl
/-- a run that never looks at the script is one over any script -/
theorem pm_sld_sc {sc : pm_S} {nx : Nat} {ls st : List Value} {w : pm_W} {z : pm_N} (h : pm_sld none nx ls st w = some z) : pm_sld sc nx ls st w = some z := by
  unfold pm_sld at h ⊢
  split at h
  · cases h
  · exact h
theorem pm_len_sc {sc : pm_S} {nx : Nat} {ls st : List Value} {w : pm_W} {z : pm_N} (h : pm_len none nx ls st w = some z) : pm_len sc nx ls st w = some z := by
  unfold pm_len at h ⊢
  split at h
  · cases h
  · exact h
  · cases h
theorem pm_x_sc {sc : pm_S} {dd pc : Nat} {e : pm_E} {ls st : List Value} {w : pm_W} {z : pm_N} (h : pm_x none dd e pc ls st w = some z) : pm_x sc dd e pc ls st w = some z := by
  obtain ⟨ins, nx, a, b, c, d⟩ := e
  cases ins with
  | iaload => exact pm_sld_sc h
  | arraylength => exact pm_len_sc h
  | newarray t => cases t <;> exact h
  | _ => exact h

