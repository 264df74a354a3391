theorem pm_ru1 {cc : ByteArray} {p : Nat} {c : UInt8} (hb : cc.data.toList[p]? = some c) : (Jvm.ClassFile.Reader.u1 : Jvm.ClassFile.Decoder Nat) cc p = Except.ok (c.toNat, p + 1) := by
  obtain ⟨⟨l⟩⟩ := cc
  have hb : l[p]? = some c := hb
  obtain ⟨h, e⟩ := List.getElem?_eq_some_iff.mp hb
  have h2 : p < (ByteArray.mk (Array.mk l)).size := h
  have e2 : (ByteArray.mk (Array.mk l))[p]'h2 = c := e
  unfold Jvm.ClassFile.Reader.u1
  show (dite (p < (ByteArray.mk (Array.mk l)).size) (fun h => (do set (p + 1); pure ((ByteArray.mk (Array.mk l))[p]'h).toNat : Jvm.ClassFile.Decoder Nat)) (fun _ => throw (Jvm.ClassFile.HasTruncated.truncated p)) : Jvm.ClassFile.Decoder Nat) (ByteArray.mk (Array.mk l)) p = _
  rw [dif_pos h2]
  show Except.ok (((ByteArray.mk (Array.mk l))[p]'h2).toNat, p + 1) = _
  rw [e2]
theorem pm_ru2 {cc : ByteArray} {p : Nat} {a b : UInt8} (h1 : cc.data.toList[p]? = some a) (h2 : cc.data.toList[p + 1]? = some b) : (Jvm.ClassFile.Reader.u2 : Jvm.ClassFile.Decoder Nat) cc p = Except.ok (a.toNat * 256 + b.toNat, p + 1 + 1) := by
  show Except.bind ((Jvm.ClassFile.Reader.u1 : Jvm.ClassFile.Decoder Nat) cc p) (fun x => Except.bind ((Jvm.ClassFile.Reader.u1 : Jvm.ClassFile.Decoder Nat) cc x.2) (fun y => Except.ok (x.1 * 256 + y.1, y.2))) = _
  rw [pm_ru1 h1]
  show Except.bind ((Jvm.ClassFile.Reader.u1 : Jvm.ClassFile.Decoder Nat) cc (p + 1)) (fun y => Except.ok (a.toNat * 256 + y.1, y.2)) = _
  rw [pm_ru1 h2]
  rfl
theorem pm_rs1 {cc : ByteArray} {p : Nat} {a : UInt8} (h1 : cc.data.toList[p]? = some a) : (Jvm.ClassFile.Reader.s1 : Jvm.ClassFile.Decoder Int) cc p = Except.ok (Jvm.ClassFile.Reader.signed 8 a.toNat, p + 1) := by
  show Except.bind ((Jvm.ClassFile.Reader.u1 : Jvm.ClassFile.Decoder Nat) cc p) (fun x => Except.ok (Jvm.ClassFile.Reader.signed 8 x.1, x.2)) = _
  rw [pm_ru1 h1]
  rfl
theorem pm_rs2 {cc : ByteArray} {p : Nat} {a b : UInt8} (h1 : cc.data.toList[p]? = some a) (h2 : cc.data.toList[p + 1]? = some b) : (Jvm.ClassFile.Reader.s2 : Jvm.ClassFile.Decoder Int) cc p = Except.ok (Jvm.ClassFile.Reader.signed 16 (a.toNat * 256 + b.toNat), p + 1 + 1) := by
  show Except.bind ((Jvm.ClassFile.Reader.u2 : Jvm.ClassFile.Decoder Nat) cc p) (fun x => Except.ok (Jvm.ClassFile.Reader.signed 16 x.1, x.2)) = _
  rw [pm_ru2 h1 h2]
  rfl
theorem pm_rn {α β : Type} {cc : ByteArray} {p q : Nat} {v : β} {r : Jvm.ClassFile.Decoder β} {K : β → Jvm.ClassFile.Decoder α} (h : r cc p = Except.ok (v, q)) : Jvm.ClassFile.Reader.runAt (r >>= K) cc p = Jvm.ClassFile.Reader.runAt (K v) cc q := by
  show Except.bind (r cc p) (fun x => K x.1 cc x.2) = _
  rw [h]
  rfl
theorem pm_dec {cc : ByteArray} {pc n k : Nat} {i : Instr} (h : Jvm.ClassFile.Reader.runAt (Jvm.ClassFile.Decoder.instr pc) cc pc = Except.ok (i, n)) (hk : n - pc = k) : decode cc pc = .ok (i, k) := by
  unfold decode
  rw [h, ← hk]
  rfl
theorem pm_dr {α : Type} {l t : List α} {pc j : Nat} {x : α} (h : l.drop pc = t) (hx : t[j]? = some x) : l[pc + j]? = some x := by
  rw [← h, List.getElem?_drop] at hx
  exact hx
noncomputable def pm_o1 (r : List UInt8) (f : Nat → Instr × Nat) : Option (Instr × Nat) := match r with
  | x :: _ => some (f x.toNat)
  | _ => none
noncomputable def pm_o2 (r : List UInt8) (f : Nat → Instr × Nat) : Option (Instr × Nat) := match r with
  | x :: y :: _ => some (f (x.toNat * 256 + y.toNat))
  | _ => none
noncomputable def pm_oi (r : List UInt8) (f : Nat → Nat → Instr × Nat) : Option (Instr × Nat) := match r with
  | x :: y :: _ => some (f x.toNat y.toNat)
  | _ => none
theorem pm_o1_inv {r : List UInt8} {f : Nat → Instr × Nat} {z : Instr × Nat} (h : pm_o1 r f = some z) : ∃ x t, r = x :: t ∧ f x.toNat = z := by
  match r, h with
  | x :: t, h => exact ⟨x, t, rfl, Option.some.inj h⟩
theorem pm_o2_inv {r : List UInt8} {f : Nat → Instr × Nat} {z : Instr × Nat} (h : pm_o2 r f = some z) : ∃ x y t, r = x :: y :: t ∧ f (x.toNat * 256 + y.toNat) = z := by
  match r, h with
  | x :: y :: t, h => exact ⟨x, y, t, rfl, Option.some.inj h⟩
theorem pm_oi_inv {r : List UInt8} {f : Nat → Nat → Instr × Nat} {z : Instr × Nat} (h : pm_oi r f = some z) : ∃ x y t, r = x :: y :: t ∧ f x.toNat y.toNat = z := by
  match r, h with
  | x :: y :: t, h => exact ⟨x, y, t, rfl, Option.some.inj h⟩
theorem pm_bif2 {α : Type} {b : Bool} {x : Option α} {z : α} (h : (bif b then x else none) = some z) : b = true ∧ x = some z := by
  cases b with
  | true => exact ⟨rfl, h⟩
  | false => cases h
theorem pm_l2 {cc : ByteArray} {pc : Nat} {a : UInt8} {t : List UInt8} (hl : cc.data.toList.drop pc = a :: t) (h : a.toNat = 2) : decode cc pc = .ok ((Instr.iconst (-1)), 1) := by
  refine pm_dec (n := pc + 1) ?_ (by omega)
  unfold Jvm.ClassFile.Decoder.instr
  rw [pm_rn (pm_ru1 (show cc.data.toList[pc]? = some a from pm_dr (j := 0) hl rfl)), h]
  rfl
theorem pm_l3 {cc : ByteArray} {pc : Nat} {a : UInt8} {t : List UInt8} (hl : cc.data.toList.drop pc = a :: t) (h : a.toNat = 3) : decode cc pc = .ok ((Instr.iconst 0), 1) := by
  refine pm_dec (n := pc + 1) ?_ (by omega)
  unfold Jvm.ClassFile.Decoder.instr
  rw [pm_rn (pm_ru1 (show cc.data.toList[pc]? = some a from pm_dr (j := 0) hl rfl)), h]
  rfl
theorem pm_l4 {cc : ByteArray} {pc : Nat} {a : UInt8} {t : List UInt8} (hl : cc.data.toList.drop pc = a :: t) (h : a.toNat = 4) : decode cc pc = .ok ((Instr.iconst 1), 1) := by
  refine pm_dec (n := pc + 1) ?_ (by omega)
  unfold Jvm.ClassFile.Decoder.instr
  rw [pm_rn (pm_ru1 (show cc.data.toList[pc]? = some a from pm_dr (j := 0) hl rfl)), h]
  rfl
theorem pm_l5 {cc : ByteArray} {pc : Nat} {a : UInt8} {t : List UInt8} (hl : cc.data.toList.drop pc = a :: t) (h : a.toNat = 5) : decode cc pc = .ok ((Instr.iconst 2), 1) := by
  refine pm_dec (n := pc + 1) ?_ (by omega)
  unfold Jvm.ClassFile.Decoder.instr
  rw [pm_rn (pm_ru1 (show cc.data.toList[pc]? = some a from pm_dr (j := 0) hl rfl)), h]
  rfl
theorem pm_l6 {cc : ByteArray} {pc : Nat} {a : UInt8} {t : List UInt8} (hl : cc.data.toList.drop pc = a :: t) (h : a.toNat = 6) : decode cc pc = .ok ((Instr.iconst 3), 1) := by
  refine pm_dec (n := pc + 1) ?_ (by omega)
  unfold Jvm.ClassFile.Decoder.instr
  rw [pm_rn (pm_ru1 (show cc.data.toList[pc]? = some a from pm_dr (j := 0) hl rfl)), h]
  rfl
theorem pm_l7 {cc : ByteArray} {pc : Nat} {a : UInt8} {t : List UInt8} (hl : cc.data.toList.drop pc = a :: t) (h : a.toNat = 7) : decode cc pc = .ok ((Instr.iconst 4), 1) := by
  refine pm_dec (n := pc + 1) ?_ (by omega)
  unfold Jvm.ClassFile.Decoder.instr
  rw [pm_rn (pm_ru1 (show cc.data.toList[pc]? = some a from pm_dr (j := 0) hl rfl)), h]
  rfl
theorem pm_l8 {cc : ByteArray} {pc : Nat} {a : UInt8} {t : List UInt8} (hl : cc.data.toList.drop pc = a :: t) (h : a.toNat = 8) : decode cc pc = .ok ((Instr.iconst 5), 1) := by
  refine pm_dec (n := pc + 1) ?_ (by omega)
  unfold Jvm.ClassFile.Decoder.instr
  rw [pm_rn (pm_ru1 (show cc.data.toList[pc]? = some a from pm_dr (j := 0) hl rfl)), h]
  rfl
theorem pm_l9 {cc : ByteArray} {pc : Nat} {a : UInt8} {t : List UInt8} (hl : cc.data.toList.drop pc = a :: t) (h : a.toNat = 9) : decode cc pc = .ok ((Instr.lconst 0), 1) := by
  refine pm_dec (n := pc + 1) ?_ (by omega)
  unfold Jvm.ClassFile.Decoder.instr
  rw [pm_rn (pm_ru1 (show cc.data.toList[pc]? = some a from pm_dr (j := 0) hl rfl)), h]
  rfl
theorem pm_l16 {cc : ByteArray} {pc : Nat} {a x : UInt8} {t : List UInt8} (hl : cc.data.toList.drop pc = a :: x :: t) (h : a.toNat = 16) : decode cc pc = .ok (Instr.bipush (Jvm.ClassFile.Reader.signed 8 x.toNat), 2) := by
  refine pm_dec (n := pc + 1 + 1) ?_ (by omega)
  unfold Jvm.ClassFile.Decoder.instr
  rw [pm_rn (pm_ru1 (show cc.data.toList[pc]? = some a from pm_dr (j := 0) hl rfl)), h]
  show Jvm.ClassFile.Reader.runAt (Jvm.ClassFile.Reader.s1 >>= fun k => pure (Instr.bipush k)) cc (pc + 1) = _
  rw [pm_rn (pm_rs1 (show cc.data.toList[pc + 1]? = some x from pm_dr (j := 1) hl rfl))]
  rfl
theorem pm_l17 {cc : ByteArray} {pc : Nat} {a x y : UInt8} {t : List UInt8} (hl : cc.data.toList.drop pc = a :: x :: y :: t) (h : a.toNat = 17) : decode cc pc = .ok (Instr.sipush (Jvm.ClassFile.Reader.signed 16 (x.toNat * 256 + y.toNat)), 3) := by
  refine pm_dec (n := pc + 1 + 1 + 1) ?_ (by omega)
  unfold Jvm.ClassFile.Decoder.instr
  rw [pm_rn (pm_ru1 (show cc.data.toList[pc]? = some a from pm_dr (j := 0) hl rfl)), h]
  show Jvm.ClassFile.Reader.runAt (Jvm.ClassFile.Reader.s2 >>= fun k => pure (Instr.sipush k)) cc (pc + 1) = _
  rw [pm_rn (pm_rs2 (show cc.data.toList[pc + 1]? = some x from pm_dr (j := 1) hl rfl) (show cc.data.toList[pc + 1 + 1]? = some y from pm_dr (j := 2) hl rfl))]
  rfl
theorem pm_l18 {cc : ByteArray} {pc : Nat} {a x : UInt8} {t : List UInt8} (hl : cc.data.toList.drop pc = a :: x :: t) (h : a.toNat = 18) : decode cc pc = .ok (Instr.ldc x.toNat, 2) := by
  refine pm_dec (n := pc + 1 + 1) ?_ (by omega)
  unfold Jvm.ClassFile.Decoder.instr
  rw [pm_rn (pm_ru1 (show cc.data.toList[pc]? = some a from pm_dr (j := 0) hl rfl)), h]
  show Jvm.ClassFile.Reader.runAt (Jvm.ClassFile.Reader.u1 >>= fun k => pure (Instr.ldc k)) cc (pc + 1) = _
  rw [pm_rn (pm_ru1 (show cc.data.toList[pc + 1]? = some x from pm_dr (j := 1) hl rfl))]
  rfl
theorem pm_l19 {cc : ByteArray} {pc : Nat} {a x y : UInt8} {t : List UInt8} (hl : cc.data.toList.drop pc = a :: x :: y :: t) (h : a.toNat = 19) : decode cc pc = .ok (Instr.ldc_w (x.toNat * 256 + y.toNat), 3) := by
  refine pm_dec (n := pc + 1 + 1 + 1) ?_ (by omega)
  unfold Jvm.ClassFile.Decoder.instr
  rw [pm_rn (pm_ru1 (show cc.data.toList[pc]? = some a from pm_dr (j := 0) hl rfl)), h]
  show Jvm.ClassFile.Reader.runAt (Jvm.ClassFile.Reader.u2 >>= fun k => pure (Instr.ldc_w k)) cc (pc + 1) = _
  rw [pm_rn (pm_ru2 (show cc.data.toList[pc + 1]? = some x from pm_dr (j := 1) hl rfl) (show cc.data.toList[pc + 1 + 1]? = some y from pm_dr (j := 2) hl rfl))]
  rfl
theorem pm_l20 {cc : ByteArray} {pc : Nat} {a x y : UInt8} {t : List UInt8} (hl : cc.data.toList.drop pc = a :: x :: y :: t) (h : a.toNat = 20) : decode cc pc = .ok (Instr.ldc2_w (x.toNat * 256 + y.toNat), 3) := by
  refine pm_dec (n := pc + 1 + 1 + 1) ?_ (by omega)
  unfold Jvm.ClassFile.Decoder.instr
  rw [pm_rn (pm_ru1 (show cc.data.toList[pc]? = some a from pm_dr (j := 0) hl rfl)), h]
  show Jvm.ClassFile.Reader.runAt (Jvm.ClassFile.Reader.u2 >>= fun k => pure (Instr.ldc2_w k)) cc (pc + 1) = _
  rw [pm_rn (pm_ru2 (show cc.data.toList[pc + 1]? = some x from pm_dr (j := 1) hl rfl) (show cc.data.toList[pc + 1 + 1]? = some y from pm_dr (j := 2) hl rfl))]
  rfl
theorem pm_l21 {cc : ByteArray} {pc : Nat} {a x : UInt8} {t : List UInt8} (hl : cc.data.toList.drop pc = a :: x :: t) (h : a.toNat = 21) : decode cc pc = .ok (Instr.iload x.toNat, 2) := by
  refine pm_dec (n := pc + 1 + 1) ?_ (by omega)
  unfold Jvm.ClassFile.Decoder.instr
  rw [pm_rn (pm_ru1 (show cc.data.toList[pc]? = some a from pm_dr (j := 0) hl rfl)), h]
  show Jvm.ClassFile.Reader.runAt (Jvm.ClassFile.Reader.u1 >>= fun k => pure (Instr.iload k)) cc (pc + 1) = _
  rw [pm_rn (pm_ru1 (show cc.data.toList[pc + 1]? = some x from pm_dr (j := 1) hl rfl))]
  rfl
theorem pm_l22 {cc : ByteArray} {pc : Nat} {a x : UInt8} {t : List UInt8} (hl : cc.data.toList.drop pc = a :: x :: t) (h : a.toNat = 22) : decode cc pc = .ok (Instr.lload x.toNat, 2) := by
  refine pm_dec (n := pc + 1 + 1) ?_ (by omega)
  unfold Jvm.ClassFile.Decoder.instr
  rw [pm_rn (pm_ru1 (show cc.data.toList[pc]? = some a from pm_dr (j := 0) hl rfl)), h]
  show Jvm.ClassFile.Reader.runAt (Jvm.ClassFile.Reader.u1 >>= fun k => pure (Instr.lload k)) cc (pc + 1) = _
  rw [pm_rn (pm_ru1 (show cc.data.toList[pc + 1]? = some x from pm_dr (j := 1) hl rfl))]
  rfl
theorem pm_l26 {cc : ByteArray} {pc : Nat} {a : UInt8} {t : List UInt8} (hl : cc.data.toList.drop pc = a :: t) (h : a.toNat = 26) : decode cc pc = .ok ((Instr.iload_n 0), 1) := by
  refine pm_dec (n := pc + 1) ?_ (by omega)
  unfold Jvm.ClassFile.Decoder.instr
  rw [pm_rn (pm_ru1 (show cc.data.toList[pc]? = some a from pm_dr (j := 0) hl rfl)), h]
  rfl
theorem pm_l27 {cc : ByteArray} {pc : Nat} {a : UInt8} {t : List UInt8} (hl : cc.data.toList.drop pc = a :: t) (h : a.toNat = 27) : decode cc pc = .ok ((Instr.iload_n 1), 1) := by
  refine pm_dec (n := pc + 1) ?_ (by omega)
  unfold Jvm.ClassFile.Decoder.instr
  rw [pm_rn (pm_ru1 (show cc.data.toList[pc]? = some a from pm_dr (j := 0) hl rfl)), h]
  rfl
theorem pm_l28 {cc : ByteArray} {pc : Nat} {a : UInt8} {t : List UInt8} (hl : cc.data.toList.drop pc = a :: t) (h : a.toNat = 28) : decode cc pc = .ok ((Instr.iload_n 2), 1) := by
  refine pm_dec (n := pc + 1) ?_ (by omega)
  unfold Jvm.ClassFile.Decoder.instr
  rw [pm_rn (pm_ru1 (show cc.data.toList[pc]? = some a from pm_dr (j := 0) hl rfl)), h]
  rfl
theorem pm_l29 {cc : ByteArray} {pc : Nat} {a : UInt8} {t : List UInt8} (hl : cc.data.toList.drop pc = a :: t) (h : a.toNat = 29) : decode cc pc = .ok ((Instr.iload_n 3), 1) := by
  refine pm_dec (n := pc + 1) ?_ (by omega)
  unfold Jvm.ClassFile.Decoder.instr
  rw [pm_rn (pm_ru1 (show cc.data.toList[pc]? = some a from pm_dr (j := 0) hl rfl)), h]
  rfl
theorem pm_l31 {cc : ByteArray} {pc : Nat} {a : UInt8} {t : List UInt8} (hl : cc.data.toList.drop pc = a :: t) (h : a.toNat = 31) : decode cc pc = .ok ((Instr.lload_n 1), 1) := by
  refine pm_dec (n := pc + 1) ?_ (by omega)
  unfold Jvm.ClassFile.Decoder.instr
  rw [pm_rn (pm_ru1 (show cc.data.toList[pc]? = some a from pm_dr (j := 0) hl rfl)), h]
  rfl
theorem pm_l33 {cc : ByteArray} {pc : Nat} {a : UInt8} {t : List UInt8} (hl : cc.data.toList.drop pc = a :: t) (h : a.toNat = 33) : decode cc pc = .ok ((Instr.lload_n 3), 1) := by
  refine pm_dec (n := pc + 1) ?_ (by omega)
  unfold Jvm.ClassFile.Decoder.instr
  rw [pm_rn (pm_ru1 (show cc.data.toList[pc]? = some a from pm_dr (j := 0) hl rfl)), h]
  rfl
theorem pm_l42 {cc : ByteArray} {pc : Nat} {a : UInt8} {t : List UInt8} (hl : cc.data.toList.drop pc = a :: t) (h : a.toNat = 42) : decode cc pc = .ok ((Instr.aload_n 0), 1) := by
  refine pm_dec (n := pc + 1) ?_ (by omega)
  unfold Jvm.ClassFile.Decoder.instr
  rw [pm_rn (pm_ru1 (show cc.data.toList[pc]? = some a from pm_dr (j := 0) hl rfl)), h]
  rfl
theorem pm_l43 {cc : ByteArray} {pc : Nat} {a : UInt8} {t : List UInt8} (hl : cc.data.toList.drop pc = a :: t) (h : a.toNat = 43) : decode cc pc = .ok ((Instr.aload_n 1), 1) := by
  refine pm_dec (n := pc + 1) ?_ (by omega)
  unfold Jvm.ClassFile.Decoder.instr
  rw [pm_rn (pm_ru1 (show cc.data.toList[pc]? = some a from pm_dr (j := 0) hl rfl)), h]
  rfl
theorem pm_l44 {cc : ByteArray} {pc : Nat} {a : UInt8} {t : List UInt8} (hl : cc.data.toList.drop pc = a :: t) (h : a.toNat = 44) : decode cc pc = .ok ((Instr.aload_n 2), 1) := by
  refine pm_dec (n := pc + 1) ?_ (by omega)
  unfold Jvm.ClassFile.Decoder.instr
  rw [pm_rn (pm_ru1 (show cc.data.toList[pc]? = some a from pm_dr (j := 0) hl rfl)), h]
  rfl
theorem pm_l45 {cc : ByteArray} {pc : Nat} {a : UInt8} {t : List UInt8} (hl : cc.data.toList.drop pc = a :: t) (h : a.toNat = 45) : decode cc pc = .ok ((Instr.aload_n 3), 1) := by
  refine pm_dec (n := pc + 1) ?_ (by omega)
  unfold Jvm.ClassFile.Decoder.instr
  rw [pm_rn (pm_ru1 (show cc.data.toList[pc]? = some a from pm_dr (j := 0) hl rfl)), h]
  rfl
theorem pm_l46 {cc : ByteArray} {pc : Nat} {a : UInt8} {t : List UInt8} (hl : cc.data.toList.drop pc = a :: t) (h : a.toNat = 46) : decode cc pc = .ok (Instr.iaload, 1) := by
  refine pm_dec (n := pc + 1) ?_ (by omega)
  unfold Jvm.ClassFile.Decoder.instr
  rw [pm_rn (pm_ru1 (show cc.data.toList[pc]? = some a from pm_dr (j := 0) hl rfl)), h]
  rfl
theorem pm_l47 {cc : ByteArray} {pc : Nat} {a : UInt8} {t : List UInt8} (hl : cc.data.toList.drop pc = a :: t) (h : a.toNat = 47) : decode cc pc = .ok (Instr.laload, 1) := by
  refine pm_dec (n := pc + 1) ?_ (by omega)
  unfold Jvm.ClassFile.Decoder.instr
  rw [pm_rn (pm_ru1 (show cc.data.toList[pc]? = some a from pm_dr (j := 0) hl rfl)), h]
  rfl
theorem pm_l50 {cc : ByteArray} {pc : Nat} {a : UInt8} {t : List UInt8} (hl : cc.data.toList.drop pc = a :: t) (h : a.toNat = 50) : decode cc pc = .ok (Instr.aaload, 1) := by
  refine pm_dec (n := pc + 1) ?_ (by omega)
  unfold Jvm.ClassFile.Decoder.instr
  rw [pm_rn (pm_ru1 (show cc.data.toList[pc]? = some a from pm_dr (j := 0) hl rfl)), h]
  rfl
theorem pm_l51 {cc : ByteArray} {pc : Nat} {a : UInt8} {t : List UInt8} (hl : cc.data.toList.drop pc = a :: t) (h : a.toNat = 51) : decode cc pc = .ok (Instr.baload, 1) := by
  refine pm_dec (n := pc + 1) ?_ (by omega)
  unfold Jvm.ClassFile.Decoder.instr
  rw [pm_rn (pm_ru1 (show cc.data.toList[pc]? = some a from pm_dr (j := 0) hl rfl)), h]
  rfl
theorem pm_l54 {cc : ByteArray} {pc : Nat} {a x : UInt8} {t : List UInt8} (hl : cc.data.toList.drop pc = a :: x :: t) (h : a.toNat = 54) : decode cc pc = .ok (Instr.istore x.toNat, 2) := by
  refine pm_dec (n := pc + 1 + 1) ?_ (by omega)
  unfold Jvm.ClassFile.Decoder.instr
  rw [pm_rn (pm_ru1 (show cc.data.toList[pc]? = some a from pm_dr (j := 0) hl rfl)), h]
  show Jvm.ClassFile.Reader.runAt (Jvm.ClassFile.Reader.u1 >>= fun k => pure (Instr.istore k)) cc (pc + 1) = _
  rw [pm_rn (pm_ru1 (show cc.data.toList[pc + 1]? = some x from pm_dr (j := 1) hl rfl))]
  rfl
theorem pm_l55 {cc : ByteArray} {pc : Nat} {a x : UInt8} {t : List UInt8} (hl : cc.data.toList.drop pc = a :: x :: t) (h : a.toNat = 55) : decode cc pc = .ok (Instr.lstore x.toNat, 2) := by
  refine pm_dec (n := pc + 1 + 1) ?_ (by omega)
  unfold Jvm.ClassFile.Decoder.instr
  rw [pm_rn (pm_ru1 (show cc.data.toList[pc]? = some a from pm_dr (j := 0) hl rfl)), h]
  show Jvm.ClassFile.Reader.runAt (Jvm.ClassFile.Reader.u1 >>= fun k => pure (Instr.lstore k)) cc (pc + 1) = _
  rw [pm_rn (pm_ru1 (show cc.data.toList[pc + 1]? = some x from pm_dr (j := 1) hl rfl))]
  rfl
theorem pm_l59 {cc : ByteArray} {pc : Nat} {a : UInt8} {t : List UInt8} (hl : cc.data.toList.drop pc = a :: t) (h : a.toNat = 59) : decode cc pc = .ok ((Instr.istore_n 0), 1) := by
  refine pm_dec (n := pc + 1) ?_ (by omega)
  unfold Jvm.ClassFile.Decoder.instr
  rw [pm_rn (pm_ru1 (show cc.data.toList[pc]? = some a from pm_dr (j := 0) hl rfl)), h]
  rfl
theorem pm_l60 {cc : ByteArray} {pc : Nat} {a : UInt8} {t : List UInt8} (hl : cc.data.toList.drop pc = a :: t) (h : a.toNat = 60) : decode cc pc = .ok ((Instr.istore_n 1), 1) := by
  refine pm_dec (n := pc + 1) ?_ (by omega)
  unfold Jvm.ClassFile.Decoder.instr
  rw [pm_rn (pm_ru1 (show cc.data.toList[pc]? = some a from pm_dr (j := 0) hl rfl)), h]
  rfl
theorem pm_l61 {cc : ByteArray} {pc : Nat} {a : UInt8} {t : List UInt8} (hl : cc.data.toList.drop pc = a :: t) (h : a.toNat = 61) : decode cc pc = .ok ((Instr.istore_n 2), 1) := by
  refine pm_dec (n := pc + 1) ?_ (by omega)
  unfold Jvm.ClassFile.Decoder.instr
  rw [pm_rn (pm_ru1 (show cc.data.toList[pc]? = some a from pm_dr (j := 0) hl rfl)), h]
  rfl
theorem pm_l62 {cc : ByteArray} {pc : Nat} {a : UInt8} {t : List UInt8} (hl : cc.data.toList.drop pc = a :: t) (h : a.toNat = 62) : decode cc pc = .ok ((Instr.istore_n 3), 1) := by
  refine pm_dec (n := pc + 1) ?_ (by omega)
  unfold Jvm.ClassFile.Decoder.instr
  rw [pm_rn (pm_ru1 (show cc.data.toList[pc]? = some a from pm_dr (j := 0) hl rfl)), h]
  rfl
theorem pm_l66 {cc : ByteArray} {pc : Nat} {a : UInt8} {t : List UInt8} (hl : cc.data.toList.drop pc = a :: t) (h : a.toNat = 66) : decode cc pc = .ok ((Instr.lstore_n 3), 1) := by
  refine pm_dec (n := pc + 1) ?_ (by omega)
  unfold Jvm.ClassFile.Decoder.instr
  rw [pm_rn (pm_ru1 (show cc.data.toList[pc]? = some a from pm_dr (j := 0) hl rfl)), h]
  rfl
theorem pm_l76 {cc : ByteArray} {pc : Nat} {a : UInt8} {t : List UInt8} (hl : cc.data.toList.drop pc = a :: t) (h : a.toNat = 76) : decode cc pc = .ok ((Instr.astore_n 1), 1) := by
  refine pm_dec (n := pc + 1) ?_ (by omega)
  unfold Jvm.ClassFile.Decoder.instr
  rw [pm_rn (pm_ru1 (show cc.data.toList[pc]? = some a from pm_dr (j := 0) hl rfl)), h]
  rfl
theorem pm_l77 {cc : ByteArray} {pc : Nat} {a : UInt8} {t : List UInt8} (hl : cc.data.toList.drop pc = a :: t) (h : a.toNat = 77) : decode cc pc = .ok ((Instr.astore_n 2), 1) := by
  refine pm_dec (n := pc + 1) ?_ (by omega)
  unfold Jvm.ClassFile.Decoder.instr
  rw [pm_rn (pm_ru1 (show cc.data.toList[pc]? = some a from pm_dr (j := 0) hl rfl)), h]
  rfl
theorem pm_l79 {cc : ByteArray} {pc : Nat} {a : UInt8} {t : List UInt8} (hl : cc.data.toList.drop pc = a :: t) (h : a.toNat = 79) : decode cc pc = .ok (Instr.iastore, 1) := by
  refine pm_dec (n := pc + 1) ?_ (by omega)
  unfold Jvm.ClassFile.Decoder.instr
  rw [pm_rn (pm_ru1 (show cc.data.toList[pc]? = some a from pm_dr (j := 0) hl rfl)), h]
  rfl
theorem pm_l80 {cc : ByteArray} {pc : Nat} {a : UInt8} {t : List UInt8} (hl : cc.data.toList.drop pc = a :: t) (h : a.toNat = 80) : decode cc pc = .ok (Instr.lastore, 1) := by
  refine pm_dec (n := pc + 1) ?_ (by omega)
  unfold Jvm.ClassFile.Decoder.instr
  rw [pm_rn (pm_ru1 (show cc.data.toList[pc]? = some a from pm_dr (j := 0) hl rfl)), h]
  rfl
theorem pm_l83 {cc : ByteArray} {pc : Nat} {a : UInt8} {t : List UInt8} (hl : cc.data.toList.drop pc = a :: t) (h : a.toNat = 83) : decode cc pc = .ok (Instr.aastore, 1) := by
  refine pm_dec (n := pc + 1) ?_ (by omega)
  unfold Jvm.ClassFile.Decoder.instr
  rw [pm_rn (pm_ru1 (show cc.data.toList[pc]? = some a from pm_dr (j := 0) hl rfl)), h]
  rfl
theorem pm_l84 {cc : ByteArray} {pc : Nat} {a : UInt8} {t : List UInt8} (hl : cc.data.toList.drop pc = a :: t) (h : a.toNat = 84) : decode cc pc = .ok (Instr.bastore, 1) := by
  refine pm_dec (n := pc + 1) ?_ (by omega)
  unfold Jvm.ClassFile.Decoder.instr
  rw [pm_rn (pm_ru1 (show cc.data.toList[pc]? = some a from pm_dr (j := 0) hl rfl)), h]
  rfl
theorem pm_l87 {cc : ByteArray} {pc : Nat} {a : UInt8} {t : List UInt8} (hl : cc.data.toList.drop pc = a :: t) (h : a.toNat = 87) : decode cc pc = .ok (Instr.pop, 1) := by
  refine pm_dec (n := pc + 1) ?_ (by omega)
  unfold Jvm.ClassFile.Decoder.instr
  rw [pm_rn (pm_ru1 (show cc.data.toList[pc]? = some a from pm_dr (j := 0) hl rfl)), h]
  rfl
theorem pm_l89 {cc : ByteArray} {pc : Nat} {a : UInt8} {t : List UInt8} (hl : cc.data.toList.drop pc = a :: t) (h : a.toNat = 89) : decode cc pc = .ok (Instr.dup, 1) := by
  refine pm_dec (n := pc + 1) ?_ (by omega)
  unfold Jvm.ClassFile.Decoder.instr
  rw [pm_rn (pm_ru1 (show cc.data.toList[pc]? = some a from pm_dr (j := 0) hl rfl)), h]
  rfl
theorem pm_l92 {cc : ByteArray} {pc : Nat} {a : UInt8} {t : List UInt8} (hl : cc.data.toList.drop pc = a :: t) (h : a.toNat = 92) : decode cc pc = .ok (Instr.dup2, 1) := by
  refine pm_dec (n := pc + 1) ?_ (by omega)
  unfold Jvm.ClassFile.Decoder.instr
  rw [pm_rn (pm_ru1 (show cc.data.toList[pc]? = some a from pm_dr (j := 0) hl rfl)), h]
  rfl
theorem pm_l96 {cc : ByteArray} {pc : Nat} {a : UInt8} {t : List UInt8} (hl : cc.data.toList.drop pc = a :: t) (h : a.toNat = 96) : decode cc pc = .ok (Instr.iadd, 1) := by
  refine pm_dec (n := pc + 1) ?_ (by omega)
  unfold Jvm.ClassFile.Decoder.instr
  rw [pm_rn (pm_ru1 (show cc.data.toList[pc]? = some a from pm_dr (j := 0) hl rfl)), h]
  rfl
theorem pm_l100 {cc : ByteArray} {pc : Nat} {a : UInt8} {t : List UInt8} (hl : cc.data.toList.drop pc = a :: t) (h : a.toNat = 100) : decode cc pc = .ok (Instr.isub, 1) := by
  refine pm_dec (n := pc + 1) ?_ (by omega)
  unfold Jvm.ClassFile.Decoder.instr
  rw [pm_rn (pm_ru1 (show cc.data.toList[pc]? = some a from pm_dr (j := 0) hl rfl)), h]
  rfl
theorem pm_l104 {cc : ByteArray} {pc : Nat} {a : UInt8} {t : List UInt8} (hl : cc.data.toList.drop pc = a :: t) (h : a.toNat = 104) : decode cc pc = .ok (Instr.imul, 1) := by
  refine pm_dec (n := pc + 1) ?_ (by omega)
  unfold Jvm.ClassFile.Decoder.instr
  rw [pm_rn (pm_ru1 (show cc.data.toList[pc]? = some a from pm_dr (j := 0) hl rfl)), h]
  rfl
theorem pm_l108 {cc : ByteArray} {pc : Nat} {a : UInt8} {t : List UInt8} (hl : cc.data.toList.drop pc = a :: t) (h : a.toNat = 108) : decode cc pc = .ok (Instr.idiv, 1) := by
  refine pm_dec (n := pc + 1) ?_ (by omega)
  unfold Jvm.ClassFile.Decoder.instr
  rw [pm_rn (pm_ru1 (show cc.data.toList[pc]? = some a from pm_dr (j := 0) hl rfl)), h]
  rfl
theorem pm_l112 {cc : ByteArray} {pc : Nat} {a : UInt8} {t : List UInt8} (hl : cc.data.toList.drop pc = a :: t) (h : a.toNat = 112) : decode cc pc = .ok (Instr.irem, 1) := by
  refine pm_dec (n := pc + 1) ?_ (by omega)
  unfold Jvm.ClassFile.Decoder.instr
  rw [pm_rn (pm_ru1 (show cc.data.toList[pc]? = some a from pm_dr (j := 0) hl rfl)), h]
  rfl
theorem pm_l116 {cc : ByteArray} {pc : Nat} {a : UInt8} {t : List UInt8} (hl : cc.data.toList.drop pc = a :: t) (h : a.toNat = 116) : decode cc pc = .ok (Instr.ineg, 1) := by
  refine pm_dec (n := pc + 1) ?_ (by omega)
  unfold Jvm.ClassFile.Decoder.instr
  rw [pm_rn (pm_ru1 (show cc.data.toList[pc]? = some a from pm_dr (j := 0) hl rfl)), h]
  rfl
theorem pm_l120 {cc : ByteArray} {pc : Nat} {a : UInt8} {t : List UInt8} (hl : cc.data.toList.drop pc = a :: t) (h : a.toNat = 120) : decode cc pc = .ok (Instr.ishl, 1) := by
  refine pm_dec (n := pc + 1) ?_ (by omega)
  unfold Jvm.ClassFile.Decoder.instr
  rw [pm_rn (pm_ru1 (show cc.data.toList[pc]? = some a from pm_dr (j := 0) hl rfl)), h]
  rfl
theorem pm_l121 {cc : ByteArray} {pc : Nat} {a : UInt8} {t : List UInt8} (hl : cc.data.toList.drop pc = a :: t) (h : a.toNat = 121) : decode cc pc = .ok (Instr.lshl, 1) := by
  refine pm_dec (n := pc + 1) ?_ (by omega)
  unfold Jvm.ClassFile.Decoder.instr
  rw [pm_rn (pm_ru1 (show cc.data.toList[pc]? = some a from pm_dr (j := 0) hl rfl)), h]
  rfl
theorem pm_l122 {cc : ByteArray} {pc : Nat} {a : UInt8} {t : List UInt8} (hl : cc.data.toList.drop pc = a :: t) (h : a.toNat = 122) : decode cc pc = .ok (Instr.ishr, 1) := by
  refine pm_dec (n := pc + 1) ?_ (by omega)
  unfold Jvm.ClassFile.Decoder.instr
  rw [pm_rn (pm_ru1 (show cc.data.toList[pc]? = some a from pm_dr (j := 0) hl rfl)), h]
  rfl
theorem pm_l124 {cc : ByteArray} {pc : Nat} {a : UInt8} {t : List UInt8} (hl : cc.data.toList.drop pc = a :: t) (h : a.toNat = 124) : decode cc pc = .ok (Instr.iushr, 1) := by
  refine pm_dec (n := pc + 1) ?_ (by omega)
  unfold Jvm.ClassFile.Decoder.instr
  rw [pm_rn (pm_ru1 (show cc.data.toList[pc]? = some a from pm_dr (j := 0) hl rfl)), h]
  rfl
theorem pm_l125 {cc : ByteArray} {pc : Nat} {a : UInt8} {t : List UInt8} (hl : cc.data.toList.drop pc = a :: t) (h : a.toNat = 125) : decode cc pc = .ok (Instr.lushr, 1) := by
  refine pm_dec (n := pc + 1) ?_ (by omega)
  unfold Jvm.ClassFile.Decoder.instr
  rw [pm_rn (pm_ru1 (show cc.data.toList[pc]? = some a from pm_dr (j := 0) hl rfl)), h]
  rfl
theorem pm_l126 {cc : ByteArray} {pc : Nat} {a : UInt8} {t : List UInt8} (hl : cc.data.toList.drop pc = a :: t) (h : a.toNat = 126) : decode cc pc = .ok (Instr.iand, 1) := by
  refine pm_dec (n := pc + 1) ?_ (by omega)
  unfold Jvm.ClassFile.Decoder.instr
  rw [pm_rn (pm_ru1 (show cc.data.toList[pc]? = some a from pm_dr (j := 0) hl rfl)), h]
  rfl
theorem pm_l127 {cc : ByteArray} {pc : Nat} {a : UInt8} {t : List UInt8} (hl : cc.data.toList.drop pc = a :: t) (h : a.toNat = 127) : decode cc pc = .ok (Instr.land, 1) := by
  refine pm_dec (n := pc + 1) ?_ (by omega)
  unfold Jvm.ClassFile.Decoder.instr
  rw [pm_rn (pm_ru1 (show cc.data.toList[pc]? = some a from pm_dr (j := 0) hl rfl)), h]
  rfl
theorem pm_l128 {cc : ByteArray} {pc : Nat} {a : UInt8} {t : List UInt8} (hl : cc.data.toList.drop pc = a :: t) (h : a.toNat = 128) : decode cc pc = .ok (Instr.ior, 1) := by
  refine pm_dec (n := pc + 1) ?_ (by omega)
  unfold Jvm.ClassFile.Decoder.instr
  rw [pm_rn (pm_ru1 (show cc.data.toList[pc]? = some a from pm_dr (j := 0) hl rfl)), h]
  rfl
theorem pm_l129 {cc : ByteArray} {pc : Nat} {a : UInt8} {t : List UInt8} (hl : cc.data.toList.drop pc = a :: t) (h : a.toNat = 129) : decode cc pc = .ok (Instr.lor, 1) := by
  refine pm_dec (n := pc + 1) ?_ (by omega)
  unfold Jvm.ClassFile.Decoder.instr
  rw [pm_rn (pm_ru1 (show cc.data.toList[pc]? = some a from pm_dr (j := 0) hl rfl)), h]
  rfl
theorem pm_l130 {cc : ByteArray} {pc : Nat} {a : UInt8} {t : List UInt8} (hl : cc.data.toList.drop pc = a :: t) (h : a.toNat = 130) : decode cc pc = .ok (Instr.ixor, 1) := by
  refine pm_dec (n := pc + 1) ?_ (by omega)
  unfold Jvm.ClassFile.Decoder.instr
  rw [pm_rn (pm_ru1 (show cc.data.toList[pc]? = some a from pm_dr (j := 0) hl rfl)), h]
  rfl
theorem pm_l131 {cc : ByteArray} {pc : Nat} {a : UInt8} {t : List UInt8} (hl : cc.data.toList.drop pc = a :: t) (h : a.toNat = 131) : decode cc pc = .ok (Instr.lxor, 1) := by
  refine pm_dec (n := pc + 1) ?_ (by omega)
  unfold Jvm.ClassFile.Decoder.instr
  rw [pm_rn (pm_ru1 (show cc.data.toList[pc]? = some a from pm_dr (j := 0) hl rfl)), h]
  rfl
theorem pm_l132 {cc : ByteArray} {pc : Nat} {a x y : UInt8} {t : List UInt8} (hl : cc.data.toList.drop pc = a :: x :: y :: t) (h : a.toNat = 132) : decode cc pc = .ok (Instr.iinc x.toNat (Jvm.ClassFile.Reader.signed 8 y.toNat), 3) := by
  refine pm_dec (n := pc + 1 + 1 + 1) ?_ (by omega)
  unfold Jvm.ClassFile.Decoder.instr
  rw [pm_rn (pm_ru1 (show cc.data.toList[pc]? = some a from pm_dr (j := 0) hl rfl)), h]
  show Jvm.ClassFile.Reader.runAt (Jvm.ClassFile.Reader.u1 >>= fun k => Jvm.ClassFile.Reader.s1 >>= fun j => pure (Instr.iinc k j)) cc (pc + 1) = _
  rw [pm_rn (pm_ru1 (show cc.data.toList[pc + 1]? = some x from pm_dr (j := 1) hl rfl)), pm_rn (pm_rs1 (show cc.data.toList[pc + 1 + 1]? = some y from pm_dr (j := 2) hl rfl))]
  rfl
theorem pm_l133 {cc : ByteArray} {pc : Nat} {a : UInt8} {t : List UInt8} (hl : cc.data.toList.drop pc = a :: t) (h : a.toNat = 133) : decode cc pc = .ok (Instr.i2l, 1) := by
  refine pm_dec (n := pc + 1) ?_ (by omega)
  unfold Jvm.ClassFile.Decoder.instr
  rw [pm_rn (pm_ru1 (show cc.data.toList[pc]? = some a from pm_dr (j := 0) hl rfl)), h]
  rfl
theorem pm_l136 {cc : ByteArray} {pc : Nat} {a : UInt8} {t : List UInt8} (hl : cc.data.toList.drop pc = a :: t) (h : a.toNat = 136) : decode cc pc = .ok (Instr.l2i, 1) := by
  refine pm_dec (n := pc + 1) ?_ (by omega)
  unfold Jvm.ClassFile.Decoder.instr
  rw [pm_rn (pm_ru1 (show cc.data.toList[pc]? = some a from pm_dr (j := 0) hl rfl)), h]
  rfl
theorem pm_l148 {cc : ByteArray} {pc : Nat} {a : UInt8} {t : List UInt8} (hl : cc.data.toList.drop pc = a :: t) (h : a.toNat = 148) : decode cc pc = .ok (Instr.lcmp, 1) := by
  refine pm_dec (n := pc + 1) ?_ (by omega)
  unfold Jvm.ClassFile.Decoder.instr
  rw [pm_rn (pm_ru1 (show cc.data.toList[pc]? = some a from pm_dr (j := 0) hl rfl)), h]
  rfl
theorem pm_l153 {cc : ByteArray} {pc : Nat} {a x y : UInt8} {t : List UInt8} (hl : cc.data.toList.drop pc = a :: x :: y :: t) (h : a.toNat = 153) : decode cc pc = .ok (Instr.ifCond .eq (Jvm.ClassFile.Reader.signed 16 (x.toNat * 256 + y.toNat)), 3) := by
  refine pm_dec (n := pc + 1 + 1 + 1) ?_ (by omega)
  unfold Jvm.ClassFile.Decoder.instr
  rw [pm_rn (pm_ru1 (show cc.data.toList[pc]? = some a from pm_dr (j := 0) hl rfl)), h]
  show Jvm.ClassFile.Reader.runAt (Jvm.ClassFile.Reader.s2 >>= fun k => pure (Instr.ifCond .eq k)) cc (pc + 1) = _
  rw [pm_rn (pm_rs2 (show cc.data.toList[pc + 1]? = some x from pm_dr (j := 1) hl rfl) (show cc.data.toList[pc + 1 + 1]? = some y from pm_dr (j := 2) hl rfl))]
  rfl
theorem pm_l154 {cc : ByteArray} {pc : Nat} {a x y : UInt8} {t : List UInt8} (hl : cc.data.toList.drop pc = a :: x :: y :: t) (h : a.toNat = 154) : decode cc pc = .ok (Instr.ifCond .ne (Jvm.ClassFile.Reader.signed 16 (x.toNat * 256 + y.toNat)), 3) := by
  refine pm_dec (n := pc + 1 + 1 + 1) ?_ (by omega)
  unfold Jvm.ClassFile.Decoder.instr
  rw [pm_rn (pm_ru1 (show cc.data.toList[pc]? = some a from pm_dr (j := 0) hl rfl)), h]
  show Jvm.ClassFile.Reader.runAt (Jvm.ClassFile.Reader.s2 >>= fun k => pure (Instr.ifCond .ne k)) cc (pc + 1) = _
  rw [pm_rn (pm_rs2 (show cc.data.toList[pc + 1]? = some x from pm_dr (j := 1) hl rfl) (show cc.data.toList[pc + 1 + 1]? = some y from pm_dr (j := 2) hl rfl))]
  rfl
theorem pm_l155 {cc : ByteArray} {pc : Nat} {a x y : UInt8} {t : List UInt8} (hl : cc.data.toList.drop pc = a :: x :: y :: t) (h : a.toNat = 155) : decode cc pc = .ok (Instr.ifCond .lt (Jvm.ClassFile.Reader.signed 16 (x.toNat * 256 + y.toNat)), 3) := by
  refine pm_dec (n := pc + 1 + 1 + 1) ?_ (by omega)
  unfold Jvm.ClassFile.Decoder.instr
  rw [pm_rn (pm_ru1 (show cc.data.toList[pc]? = some a from pm_dr (j := 0) hl rfl)), h]
  show Jvm.ClassFile.Reader.runAt (Jvm.ClassFile.Reader.s2 >>= fun k => pure (Instr.ifCond .lt k)) cc (pc + 1) = _
  rw [pm_rn (pm_rs2 (show cc.data.toList[pc + 1]? = some x from pm_dr (j := 1) hl rfl) (show cc.data.toList[pc + 1 + 1]? = some y from pm_dr (j := 2) hl rfl))]
  rfl
theorem pm_l156 {cc : ByteArray} {pc : Nat} {a x y : UInt8} {t : List UInt8} (hl : cc.data.toList.drop pc = a :: x :: y :: t) (h : a.toNat = 156) : decode cc pc = .ok (Instr.ifCond .ge (Jvm.ClassFile.Reader.signed 16 (x.toNat * 256 + y.toNat)), 3) := by
  refine pm_dec (n := pc + 1 + 1 + 1) ?_ (by omega)
  unfold Jvm.ClassFile.Decoder.instr
  rw [pm_rn (pm_ru1 (show cc.data.toList[pc]? = some a from pm_dr (j := 0) hl rfl)), h]
  show Jvm.ClassFile.Reader.runAt (Jvm.ClassFile.Reader.s2 >>= fun k => pure (Instr.ifCond .ge k)) cc (pc + 1) = _
  rw [pm_rn (pm_rs2 (show cc.data.toList[pc + 1]? = some x from pm_dr (j := 1) hl rfl) (show cc.data.toList[pc + 1 + 1]? = some y from pm_dr (j := 2) hl rfl))]
  rfl
theorem pm_l158 {cc : ByteArray} {pc : Nat} {a x y : UInt8} {t : List UInt8} (hl : cc.data.toList.drop pc = a :: x :: y :: t) (h : a.toNat = 158) : decode cc pc = .ok (Instr.ifCond .le (Jvm.ClassFile.Reader.signed 16 (x.toNat * 256 + y.toNat)), 3) := by
  refine pm_dec (n := pc + 1 + 1 + 1) ?_ (by omega)
  unfold Jvm.ClassFile.Decoder.instr
  rw [pm_rn (pm_ru1 (show cc.data.toList[pc]? = some a from pm_dr (j := 0) hl rfl)), h]
  show Jvm.ClassFile.Reader.runAt (Jvm.ClassFile.Reader.s2 >>= fun k => pure (Instr.ifCond .le k)) cc (pc + 1) = _
  rw [pm_rn (pm_rs2 (show cc.data.toList[pc + 1]? = some x from pm_dr (j := 1) hl rfl) (show cc.data.toList[pc + 1 + 1]? = some y from pm_dr (j := 2) hl rfl))]
  rfl
theorem pm_l159 {cc : ByteArray} {pc : Nat} {a x y : UInt8} {t : List UInt8} (hl : cc.data.toList.drop pc = a :: x :: y :: t) (h : a.toNat = 159) : decode cc pc = .ok (Instr.if_icmp .eq (Jvm.ClassFile.Reader.signed 16 (x.toNat * 256 + y.toNat)), 3) := by
  refine pm_dec (n := pc + 1 + 1 + 1) ?_ (by omega)
  unfold Jvm.ClassFile.Decoder.instr
  rw [pm_rn (pm_ru1 (show cc.data.toList[pc]? = some a from pm_dr (j := 0) hl rfl)), h]
  show Jvm.ClassFile.Reader.runAt (Jvm.ClassFile.Reader.s2 >>= fun k => pure (Instr.if_icmp .eq k)) cc (pc + 1) = _
  rw [pm_rn (pm_rs2 (show cc.data.toList[pc + 1]? = some x from pm_dr (j := 1) hl rfl) (show cc.data.toList[pc + 1 + 1]? = some y from pm_dr (j := 2) hl rfl))]
  rfl
theorem pm_l160 {cc : ByteArray} {pc : Nat} {a x y : UInt8} {t : List UInt8} (hl : cc.data.toList.drop pc = a :: x :: y :: t) (h : a.toNat = 160) : decode cc pc = .ok (Instr.if_icmp .ne (Jvm.ClassFile.Reader.signed 16 (x.toNat * 256 + y.toNat)), 3) := by
  refine pm_dec (n := pc + 1 + 1 + 1) ?_ (by omega)
  unfold Jvm.ClassFile.Decoder.instr
  rw [pm_rn (pm_ru1 (show cc.data.toList[pc]? = some a from pm_dr (j := 0) hl rfl)), h]
  show Jvm.ClassFile.Reader.runAt (Jvm.ClassFile.Reader.s2 >>= fun k => pure (Instr.if_icmp .ne k)) cc (pc + 1) = _
  rw [pm_rn (pm_rs2 (show cc.data.toList[pc + 1]? = some x from pm_dr (j := 1) hl rfl) (show cc.data.toList[pc + 1 + 1]? = some y from pm_dr (j := 2) hl rfl))]
  rfl
theorem pm_l161 {cc : ByteArray} {pc : Nat} {a x y : UInt8} {t : List UInt8} (hl : cc.data.toList.drop pc = a :: x :: y :: t) (h : a.toNat = 161) : decode cc pc = .ok (Instr.if_icmp .lt (Jvm.ClassFile.Reader.signed 16 (x.toNat * 256 + y.toNat)), 3) := by
  refine pm_dec (n := pc + 1 + 1 + 1) ?_ (by omega)
  unfold Jvm.ClassFile.Decoder.instr
  rw [pm_rn (pm_ru1 (show cc.data.toList[pc]? = some a from pm_dr (j := 0) hl rfl)), h]
  show Jvm.ClassFile.Reader.runAt (Jvm.ClassFile.Reader.s2 >>= fun k => pure (Instr.if_icmp .lt k)) cc (pc + 1) = _
  rw [pm_rn (pm_rs2 (show cc.data.toList[pc + 1]? = some x from pm_dr (j := 1) hl rfl) (show cc.data.toList[pc + 1 + 1]? = some y from pm_dr (j := 2) hl rfl))]
  rfl
theorem pm_l162 {cc : ByteArray} {pc : Nat} {a x y : UInt8} {t : List UInt8} (hl : cc.data.toList.drop pc = a :: x :: y :: t) (h : a.toNat = 162) : decode cc pc = .ok (Instr.if_icmp .ge (Jvm.ClassFile.Reader.signed 16 (x.toNat * 256 + y.toNat)), 3) := by
  refine pm_dec (n := pc + 1 + 1 + 1) ?_ (by omega)
  unfold Jvm.ClassFile.Decoder.instr
  rw [pm_rn (pm_ru1 (show cc.data.toList[pc]? = some a from pm_dr (j := 0) hl rfl)), h]
  show Jvm.ClassFile.Reader.runAt (Jvm.ClassFile.Reader.s2 >>= fun k => pure (Instr.if_icmp .ge k)) cc (pc + 1) = _
  rw [pm_rn (pm_rs2 (show cc.data.toList[pc + 1]? = some x from pm_dr (j := 1) hl rfl) (show cc.data.toList[pc + 1 + 1]? = some y from pm_dr (j := 2) hl rfl))]
  rfl
theorem pm_l163 {cc : ByteArray} {pc : Nat} {a x y : UInt8} {t : List UInt8} (hl : cc.data.toList.drop pc = a :: x :: y :: t) (h : a.toNat = 163) : decode cc pc = .ok (Instr.if_icmp .gt (Jvm.ClassFile.Reader.signed 16 (x.toNat * 256 + y.toNat)), 3) := by
  refine pm_dec (n := pc + 1 + 1 + 1) ?_ (by omega)
  unfold Jvm.ClassFile.Decoder.instr
  rw [pm_rn (pm_ru1 (show cc.data.toList[pc]? = some a from pm_dr (j := 0) hl rfl)), h]
  show Jvm.ClassFile.Reader.runAt (Jvm.ClassFile.Reader.s2 >>= fun k => pure (Instr.if_icmp .gt k)) cc (pc + 1) = _
  rw [pm_rn (pm_rs2 (show cc.data.toList[pc + 1]? = some x from pm_dr (j := 1) hl rfl) (show cc.data.toList[pc + 1 + 1]? = some y from pm_dr (j := 2) hl rfl))]
  rfl
theorem pm_l164 {cc : ByteArray} {pc : Nat} {a x y : UInt8} {t : List UInt8} (hl : cc.data.toList.drop pc = a :: x :: y :: t) (h : a.toNat = 164) : decode cc pc = .ok (Instr.if_icmp .le (Jvm.ClassFile.Reader.signed 16 (x.toNat * 256 + y.toNat)), 3) := by
  refine pm_dec (n := pc + 1 + 1 + 1) ?_ (by omega)
  unfold Jvm.ClassFile.Decoder.instr
  rw [pm_rn (pm_ru1 (show cc.data.toList[pc]? = some a from pm_dr (j := 0) hl rfl)), h]
  show Jvm.ClassFile.Reader.runAt (Jvm.ClassFile.Reader.s2 >>= fun k => pure (Instr.if_icmp .le k)) cc (pc + 1) = _
  rw [pm_rn (pm_rs2 (show cc.data.toList[pc + 1]? = some x from pm_dr (j := 1) hl rfl) (show cc.data.toList[pc + 1 + 1]? = some y from pm_dr (j := 2) hl rfl))]
  rfl
theorem pm_l167 {cc : ByteArray} {pc : Nat} {a x y : UInt8} {t : List UInt8} (hl : cc.data.toList.drop pc = a :: x :: y :: t) (h : a.toNat = 167) : decode cc pc = .ok (Instr.goto (Jvm.ClassFile.Reader.signed 16 (x.toNat * 256 + y.toNat)), 3) := by
  refine pm_dec (n := pc + 1 + 1 + 1) ?_ (by omega)
  unfold Jvm.ClassFile.Decoder.instr
  rw [pm_rn (pm_ru1 (show cc.data.toList[pc]? = some a from pm_dr (j := 0) hl rfl)), h]
  show Jvm.ClassFile.Reader.runAt (Jvm.ClassFile.Reader.s2 >>= fun k => pure (Instr.goto k)) cc (pc + 1) = _
  rw [pm_rn (pm_rs2 (show cc.data.toList[pc + 1]? = some x from pm_dr (j := 1) hl rfl) (show cc.data.toList[pc + 1 + 1]? = some y from pm_dr (j := 2) hl rfl))]
  rfl
theorem pm_l172 {cc : ByteArray} {pc : Nat} {a : UInt8} {t : List UInt8} (hl : cc.data.toList.drop pc = a :: t) (h : a.toNat = 172) : decode cc pc = .ok (Instr.ireturn, 1) := by
  refine pm_dec (n := pc + 1) ?_ (by omega)
  unfold Jvm.ClassFile.Decoder.instr
  rw [pm_rn (pm_ru1 (show cc.data.toList[pc]? = some a from pm_dr (j := 0) hl rfl)), h]
  rfl
theorem pm_l177 {cc : ByteArray} {pc : Nat} {a : UInt8} {t : List UInt8} (hl : cc.data.toList.drop pc = a :: t) (h : a.toNat = 177) : decode cc pc = .ok (Instr.return_, 1) := by
  refine pm_dec (n := pc + 1) ?_ (by omega)
  unfold Jvm.ClassFile.Decoder.instr
  rw [pm_rn (pm_ru1 (show cc.data.toList[pc]? = some a from pm_dr (j := 0) hl rfl)), h]
  rfl
theorem pm_l180 {cc : ByteArray} {pc : Nat} {a x y : UInt8} {t : List UInt8} (hl : cc.data.toList.drop pc = a :: x :: y :: t) (h : a.toNat = 180) : decode cc pc = .ok (Instr.getfield (x.toNat * 256 + y.toNat), 3) := by
  refine pm_dec (n := pc + 1 + 1 + 1) ?_ (by omega)
  unfold Jvm.ClassFile.Decoder.instr
  rw [pm_rn (pm_ru1 (show cc.data.toList[pc]? = some a from pm_dr (j := 0) hl rfl)), h]
  show Jvm.ClassFile.Reader.runAt (Jvm.ClassFile.Reader.u2 >>= fun k => pure (Instr.getfield k)) cc (pc + 1) = _
  rw [pm_rn (pm_ru2 (show cc.data.toList[pc + 1]? = some x from pm_dr (j := 1) hl rfl) (show cc.data.toList[pc + 1 + 1]? = some y from pm_dr (j := 2) hl rfl))]
  rfl
theorem pm_l181 {cc : ByteArray} {pc : Nat} {a x y : UInt8} {t : List UInt8} (hl : cc.data.toList.drop pc = a :: x :: y :: t) (h : a.toNat = 181) : decode cc pc = .ok (Instr.putfield (x.toNat * 256 + y.toNat), 3) := by
  refine pm_dec (n := pc + 1 + 1 + 1) ?_ (by omega)
  unfold Jvm.ClassFile.Decoder.instr
  rw [pm_rn (pm_ru1 (show cc.data.toList[pc]? = some a from pm_dr (j := 0) hl rfl)), h]
  show Jvm.ClassFile.Reader.runAt (Jvm.ClassFile.Reader.u2 >>= fun k => pure (Instr.putfield k)) cc (pc + 1) = _
  rw [pm_rn (pm_ru2 (show cc.data.toList[pc + 1]? = some x from pm_dr (j := 1) hl rfl) (show cc.data.toList[pc + 1 + 1]? = some y from pm_dr (j := 2) hl rfl))]
  rfl
theorem pm_l182 {cc : ByteArray} {pc : Nat} {a x y : UInt8} {t : List UInt8} (hl : cc.data.toList.drop pc = a :: x :: y :: t) (h : a.toNat = 182) : decode cc pc = .ok (Instr.invokevirtual (x.toNat * 256 + y.toNat), 3) := by
  refine pm_dec (n := pc + 1 + 1 + 1) ?_ (by omega)
  unfold Jvm.ClassFile.Decoder.instr
  rw [pm_rn (pm_ru1 (show cc.data.toList[pc]? = some a from pm_dr (j := 0) hl rfl)), h]
  show Jvm.ClassFile.Reader.runAt (Jvm.ClassFile.Reader.u2 >>= fun k => pure (Instr.invokevirtual k)) cc (pc + 1) = _
  rw [pm_rn (pm_ru2 (show cc.data.toList[pc + 1]? = some x from pm_dr (j := 1) hl rfl) (show cc.data.toList[pc + 1 + 1]? = some y from pm_dr (j := 2) hl rfl))]
  rfl
theorem pm_l183 {cc : ByteArray} {pc : Nat} {a x y : UInt8} {t : List UInt8} (hl : cc.data.toList.drop pc = a :: x :: y :: t) (h : a.toNat = 183) : decode cc pc = .ok (Instr.invokespecial (x.toNat * 256 + y.toNat), 3) := by
  refine pm_dec (n := pc + 1 + 1 + 1) ?_ (by omega)
  unfold Jvm.ClassFile.Decoder.instr
  rw [pm_rn (pm_ru1 (show cc.data.toList[pc]? = some a from pm_dr (j := 0) hl rfl)), h]
  show Jvm.ClassFile.Reader.runAt (Jvm.ClassFile.Reader.u2 >>= fun k => pure (Instr.invokespecial k)) cc (pc + 1) = _
  rw [pm_rn (pm_ru2 (show cc.data.toList[pc + 1]? = some x from pm_dr (j := 1) hl rfl) (show cc.data.toList[pc + 1 + 1]? = some y from pm_dr (j := 2) hl rfl))]
  rfl
theorem pm_l184 {cc : ByteArray} {pc : Nat} {a x y : UInt8} {t : List UInt8} (hl : cc.data.toList.drop pc = a :: x :: y :: t) (h : a.toNat = 184) : decode cc pc = .ok (Instr.invokestatic (x.toNat * 256 + y.toNat), 3) := by
  refine pm_dec (n := pc + 1 + 1 + 1) ?_ (by omega)
  unfold Jvm.ClassFile.Decoder.instr
  rw [pm_rn (pm_ru1 (show cc.data.toList[pc]? = some a from pm_dr (j := 0) hl rfl)), h]
  show Jvm.ClassFile.Reader.runAt (Jvm.ClassFile.Reader.u2 >>= fun k => pure (Instr.invokestatic k)) cc (pc + 1) = _
  rw [pm_rn (pm_ru2 (show cc.data.toList[pc + 1]? = some x from pm_dr (j := 1) hl rfl) (show cc.data.toList[pc + 1 + 1]? = some y from pm_dr (j := 2) hl rfl))]
  rfl
theorem pm_l187 {cc : ByteArray} {pc : Nat} {a x y : UInt8} {t : List UInt8} (hl : cc.data.toList.drop pc = a :: x :: y :: t) (h : a.toNat = 187) : decode cc pc = .ok (Instr.new (x.toNat * 256 + y.toNat), 3) := by
  refine pm_dec (n := pc + 1 + 1 + 1) ?_ (by omega)
  unfold Jvm.ClassFile.Decoder.instr
  rw [pm_rn (pm_ru1 (show cc.data.toList[pc]? = some a from pm_dr (j := 0) hl rfl)), h]
  show Jvm.ClassFile.Reader.runAt (Jvm.ClassFile.Reader.u2 >>= fun k => pure (Instr.new k)) cc (pc + 1) = _
  rw [pm_rn (pm_ru2 (show cc.data.toList[pc + 1]? = some x from pm_dr (j := 1) hl rfl) (show cc.data.toList[pc + 1 + 1]? = some y from pm_dr (j := 2) hl rfl))]
  rfl
theorem pm_l189 {cc : ByteArray} {pc : Nat} {a x y : UInt8} {t : List UInt8} (hl : cc.data.toList.drop pc = a :: x :: y :: t) (h : a.toNat = 189) : decode cc pc = .ok (Instr.anewarray (x.toNat * 256 + y.toNat), 3) := by
  refine pm_dec (n := pc + 1 + 1 + 1) ?_ (by omega)
  unfold Jvm.ClassFile.Decoder.instr
  rw [pm_rn (pm_ru1 (show cc.data.toList[pc]? = some a from pm_dr (j := 0) hl rfl)), h]
  show Jvm.ClassFile.Reader.runAt (Jvm.ClassFile.Reader.u2 >>= fun k => pure (Instr.anewarray k)) cc (pc + 1) = _
  rw [pm_rn (pm_ru2 (show cc.data.toList[pc + 1]? = some x from pm_dr (j := 1) hl rfl) (show cc.data.toList[pc + 1 + 1]? = some y from pm_dr (j := 2) hl rfl))]
  rfl
theorem pm_l190 {cc : ByteArray} {pc : Nat} {a : UInt8} {t : List UInt8} (hl : cc.data.toList.drop pc = a :: t) (h : a.toNat = 190) : decode cc pc = .ok (Instr.arraylength, 1) := by
  refine pm_dec (n := pc + 1) ?_ (by omega)
  unfold Jvm.ClassFile.Decoder.instr
  rw [pm_rn (pm_ru1 (show cc.data.toList[pc]? = some a from pm_dr (j := 0) hl rfl)), h]
  rfl
noncomputable def pm_fd1 (n : Nat) (r : List UInt8) : Option (Instr × Nat) := (bif Nat.blt n 92 then (bif Nat.blt n 43 then (bif Nat.blt n 19 then (bif Nat.blt n 7 then (bif Nat.blt n 4 then (bif Nat.blt n 3 then (bif Nat.beq n 2 then some (Instr.iconst (-1), 1) else none) else (bif Nat.beq n 3 then some (Instr.iconst 0, 1) else none)) else (bif Nat.blt n 5 then (bif Nat.beq n 4 then some (Instr.iconst 1, 1) else none) else (bif Nat.blt n 6 then (bif Nat.beq n 5 then some (Instr.iconst 2, 1) else none) else (bif Nat.beq n 6 then some (Instr.iconst 3, 1) else none)))) else (bif Nat.blt n 16 then (bif Nat.blt n 8 then (bif Nat.beq n 7 then some (Instr.iconst 4, 1) else none) else (bif Nat.blt n 9 then (bif Nat.beq n 8 then some (Instr.iconst 5, 1) else none) else (bif Nat.beq n 9 then some (Instr.lconst 0, 1) else none))) else (bif Nat.blt n 17 then (bif Nat.beq n 16 then pm_o1 r (fun k => (Instr.bipush (Jvm.ClassFile.Reader.signed 8 k), 2)) else none) else (bif Nat.blt n 18 then (bif Nat.beq n 17 then pm_o2 r (fun k => (Instr.sipush (Jvm.ClassFile.Reader.signed 16 k), 3)) else none) else (bif Nat.beq n 18 then pm_o1 r (fun k => (Instr.ldc k, 2)) else none))))) else (bif Nat.blt n 27 then (bif Nat.blt n 21 then (bif Nat.blt n 20 then (bif Nat.beq n 19 then pm_o2 r (fun k => (Instr.ldc_w k, 3)) else none) else (bif Nat.beq n 20 then pm_o2 r (fun k => (Instr.ldc2_w k, 3)) else none)) else (bif Nat.blt n 22 then (bif Nat.beq n 21 then pm_o1 r (fun k => (Instr.iload k, 2)) else none) else (bif Nat.blt n 26 then (bif Nat.beq n 22 then pm_o1 r (fun k => (Instr.lload k, 2)) else none) else (bif Nat.beq n 26 then some (Instr.iload_n 0, 1) else none)))) else (bif Nat.blt n 31 then (bif Nat.blt n 28 then (bif Nat.beq n 27 then some (Instr.iload_n 1, 1) else none) else (bif Nat.blt n 29 then (bif Nat.beq n 28 then some (Instr.iload_n 2, 1) else none) else (bif Nat.beq n 29 then some (Instr.iload_n 3, 1) else none))) else (bif Nat.blt n 33 then (bif Nat.beq n 31 then some (Instr.lload_n 1, 1) else none) else (bif Nat.blt n 42 then (bif Nat.beq n 33 then some (Instr.lload_n 3, 1) else none) else (bif Nat.beq n 42 then some (Instr.aload_n 0, 1) else none)))))) else (bif Nat.blt n 61 then (bif Nat.blt n 50 then (bif Nat.blt n 45 then (bif Nat.blt n 44 then (bif Nat.beq n 43 then some (Instr.aload_n 1, 1) else none) else (bif Nat.beq n 44 then some (Instr.aload_n 2, 1) else none)) else (bif Nat.blt n 46 then (bif Nat.beq n 45 then some (Instr.aload_n 3, 1) else none) else (bif Nat.blt n 47 then (bif Nat.beq n 46 then some (Instr.iaload, 1) else none) else (bif Nat.beq n 47 then some (Instr.laload, 1) else none)))) else (bif Nat.blt n 55 then (bif Nat.blt n 51 then (bif Nat.beq n 50 then some (Instr.aaload, 1) else none) else (bif Nat.blt n 54 then (bif Nat.beq n 51 then some (Instr.baload, 1) else none) else (bif Nat.beq n 54 then pm_o1 r (fun k => (Instr.istore k, 2)) else none))) else (bif Nat.blt n 59 then (bif Nat.beq n 55 then pm_o1 r (fun k => (Instr.lstore k, 2)) else none) else (bif Nat.blt n 60 then (bif Nat.beq n 59 then some (Instr.istore_n 0, 1) else none) else (bif Nat.beq n 60 then some (Instr.istore_n 1, 1) else none))))) else (bif Nat.blt n 79 then (bif Nat.blt n 66 then (bif Nat.blt n 62 then (bif Nat.beq n 61 then some (Instr.istore_n 2, 1) else none) else (bif Nat.beq n 62 then some (Instr.istore_n 3, 1) else none)) else (bif Nat.blt n 76 then (bif Nat.beq n 66 then some (Instr.lstore_n 3, 1) else none) else (bif Nat.blt n 77 then (bif Nat.beq n 76 then some (Instr.astore_n 1, 1) else none) else (bif Nat.beq n 77 then some (Instr.astore_n 2, 1) else none)))) else (bif Nat.blt n 84 then (bif Nat.blt n 80 then (bif Nat.beq n 79 then some (Instr.iastore, 1) else none) else (bif Nat.blt n 83 then (bif Nat.beq n 80 then some (Instr.lastore, 1) else none) else (bif Nat.beq n 83 then some (Instr.aastore, 1) else none))) else (bif Nat.blt n 87 then (bif Nat.beq n 84 then some (Instr.bastore, 1) else none) else (bif Nat.blt n 89 then (bif Nat.beq n 87 then some (Instr.pop, 1) else none) else (bif Nat.beq n 89 then some (Instr.dup, 1) else none))))))) else (bif Nat.blt n 153 then (bif Nat.blt n 125 then (bif Nat.blt n 112 then (bif Nat.blt n 100 then (bif Nat.blt n 96 then (bif Nat.beq n 92 then some (Instr.dup2, 1) else none) else (bif Nat.beq n 96 then some (Instr.iadd, 1) else none)) else (bif Nat.blt n 104 then (bif Nat.beq n 100 then some (Instr.isub, 1) else none) else (bif Nat.blt n 108 then (bif Nat.beq n 104 then some (Instr.imul, 1) else none) else (bif Nat.beq n 108 then some (Instr.idiv, 1) else none)))) else (bif Nat.blt n 121 then (bif Nat.blt n 116 then (bif Nat.beq n 112 then some (Instr.irem, 1) else none) else (bif Nat.blt n 120 then (bif Nat.beq n 116 then some (Instr.ineg, 1) else none) else (bif Nat.beq n 120 then some (Instr.ishl, 1) else none))) else (bif Nat.blt n 122 then (bif Nat.beq n 121 then some (Instr.lshl, 1) else none) else (bif Nat.blt n 124 then (bif Nat.beq n 122 then some (Instr.ishr, 1) else none) else (bif Nat.beq n 124 then some (Instr.iushr, 1) else none))))) else (bif Nat.blt n 130 then (bif Nat.blt n 127 then (bif Nat.blt n 126 then (bif Nat.beq n 125 then some (Instr.lushr, 1) else none) else (bif Nat.beq n 126 then some (Instr.iand, 1) else none)) else (bif Nat.blt n 128 then (bif Nat.beq n 127 then some (Instr.land, 1) else none) else (bif Nat.blt n 129 then (bif Nat.beq n 128 then some (Instr.ior, 1) else none) else (bif Nat.beq n 129 then some (Instr.lor, 1) else none)))) else (bif Nat.blt n 133 then (bif Nat.blt n 131 then (bif Nat.beq n 130 then some (Instr.ixor, 1) else none) else (bif Nat.blt n 132 then (bif Nat.beq n 131 then some (Instr.lxor, 1) else none) else (bif Nat.beq n 132 then pm_oi r (fun k j => (Instr.iinc k (Jvm.ClassFile.Reader.signed 8 j), 3)) else none))) else (bif Nat.blt n 136 then (bif Nat.beq n 133 then some (Instr.i2l, 1) else none) else (bif Nat.blt n 148 then (bif Nat.beq n 136 then some (Instr.l2i, 1) else none) else (bif Nat.beq n 148 then some (Instr.lcmp, 1) else none)))))) else (bif Nat.blt n 167 then (bif Nat.blt n 159 then (bif Nat.blt n 155 then (bif Nat.blt n 154 then (bif Nat.beq n 153 then pm_o2 r (fun k => (Instr.ifCond .eq (Jvm.ClassFile.Reader.signed 16 k), 3)) else none) else (bif Nat.beq n 154 then pm_o2 r (fun k => (Instr.ifCond .ne (Jvm.ClassFile.Reader.signed 16 k), 3)) else none)) else (bif Nat.blt n 156 then (bif Nat.beq n 155 then pm_o2 r (fun k => (Instr.ifCond .lt (Jvm.ClassFile.Reader.signed 16 k), 3)) else none) else (bif Nat.blt n 158 then (bif Nat.beq n 156 then pm_o2 r (fun k => (Instr.ifCond .ge (Jvm.ClassFile.Reader.signed 16 k), 3)) else none) else (bif Nat.beq n 158 then pm_o2 r (fun k => (Instr.ifCond .le (Jvm.ClassFile.Reader.signed 16 k), 3)) else none)))) else (bif Nat.blt n 162 then (bif Nat.blt n 160 then (bif Nat.beq n 159 then pm_o2 r (fun k => (Instr.if_icmp .eq (Jvm.ClassFile.Reader.signed 16 k), 3)) else none) else (bif Nat.blt n 161 then (bif Nat.beq n 160 then pm_o2 r (fun k => (Instr.if_icmp .ne (Jvm.ClassFile.Reader.signed 16 k), 3)) else none) else (bif Nat.beq n 161 then pm_o2 r (fun k => (Instr.if_icmp .lt (Jvm.ClassFile.Reader.signed 16 k), 3)) else none))) else (bif Nat.blt n 163 then (bif Nat.beq n 162 then pm_o2 r (fun k => (Instr.if_icmp .ge (Jvm.ClassFile.Reader.signed 16 k), 3)) else none) else (bif Nat.blt n 164 then (bif Nat.beq n 163 then pm_o2 r (fun k => (Instr.if_icmp .gt (Jvm.ClassFile.Reader.signed 16 k), 3)) else none) else (bif Nat.beq n 164 then pm_o2 r (fun k => (Instr.if_icmp .le (Jvm.ClassFile.Reader.signed 16 k), 3)) else none))))) else (bif Nat.blt n 182 then (bif Nat.blt n 177 then (bif Nat.blt n 172 then (bif Nat.beq n 167 then pm_o2 r (fun k => (Instr.goto (Jvm.ClassFile.Reader.signed 16 k), 3)) else none) else (bif Nat.beq n 172 then some (Instr.ireturn, 1) else none)) else (bif Nat.blt n 180 then (bif Nat.beq n 177 then some (Instr.return_, 1) else none) else (bif Nat.blt n 181 then (bif Nat.beq n 180 then pm_o2 r (fun k => (Instr.getfield k, 3)) else none) else (bif Nat.beq n 181 then pm_o2 r (fun k => (Instr.putfield k, 3)) else none)))) else (bif Nat.blt n 187 then (bif Nat.blt n 183 then (bif Nat.beq n 182 then pm_o2 r (fun k => (Instr.invokevirtual k, 3)) else none) else (bif Nat.blt n 184 then (bif Nat.beq n 183 then pm_o2 r (fun k => (Instr.invokespecial k, 3)) else none) else (bif Nat.beq n 184 then pm_o2 r (fun k => (Instr.invokestatic k, 3)) else none))) else (bif Nat.blt n 189 then (bif Nat.beq n 187 then pm_o2 r (fun k => (Instr.new k, 3)) else none) else (bif Nat.blt n 190 then (bif Nat.beq n 189 then pm_o2 r (fun k => (Instr.anewarray k, 3)) else none) else (bif Nat.beq n 190 then some (Instr.arraylength, 1) else none))))))))
set_option maxRecDepth 100000 in
theorem pm_fd1_ok {cc : ByteArray} {pc : Nat} {a : UInt8} {r : List UInt8} {i : Instr} {k : Nat} (hl : cc.data.toList.drop pc = a :: r) (h : pm_fd1 a.toNat r = some (i, k)) : decode cc pc = .ok (i, k) := by
  unfold pm_fd1 at h
  cases hb44 : Nat.blt a.toNat 92 with
  | true =>
    rw [hb44, cond_true] at h
    cases hb22 : Nat.blt a.toNat 43 with
    | true =>
      rw [hb22, cond_true] at h
      cases hb11 : Nat.blt a.toNat 19 with
      | true =>
        rw [hb11, cond_true] at h
        cases hb5 : Nat.blt a.toNat 7 with
        | true =>
          rw [hb5, cond_true] at h
          cases hb2 : Nat.blt a.toNat 4 with
          | true =>
            rw [hb2, cond_true] at h
            cases hb1 : Nat.blt a.toNat 3 with
            | true =>
              rw [hb1, cond_true] at h
              have h0 := pm_bif2 h
              have e1 := Nat.eq_of_beq_eq_true h0.1
              cases h0.2
              exact pm_l2 hl e1
            | false =>
              rw [hb1, cond_false] at h
              have h0 := pm_bif2 h
              have e1 := Nat.eq_of_beq_eq_true h0.1
              cases h0.2
              exact pm_l3 hl e1
          | false =>
            rw [hb2, cond_false] at h
            cases hb3 : Nat.blt a.toNat 5 with
            | true =>
              rw [hb3, cond_true] at h
              have h0 := pm_bif2 h
              have e1 := Nat.eq_of_beq_eq_true h0.1
              cases h0.2
              exact pm_l4 hl e1
            | false =>
              rw [hb3, cond_false] at h
              cases hb4 : Nat.blt a.toNat 6 with
              | true =>
                rw [hb4, cond_true] at h
                have h0 := pm_bif2 h
                have e1 := Nat.eq_of_beq_eq_true h0.1
                cases h0.2
                exact pm_l5 hl e1
              | false =>
                rw [hb4, cond_false] at h
                have h0 := pm_bif2 h
                have e1 := Nat.eq_of_beq_eq_true h0.1
                cases h0.2
                exact pm_l6 hl e1
        | false =>
          rw [hb5, cond_false] at h
          cases hb8 : Nat.blt a.toNat 16 with
          | true =>
            rw [hb8, cond_true] at h
            cases hb6 : Nat.blt a.toNat 8 with
            | true =>
              rw [hb6, cond_true] at h
              have h0 := pm_bif2 h
              have e1 := Nat.eq_of_beq_eq_true h0.1
              cases h0.2
              exact pm_l7 hl e1
            | false =>
              rw [hb6, cond_false] at h
              cases hb7 : Nat.blt a.toNat 9 with
              | true =>
                rw [hb7, cond_true] at h
                have h0 := pm_bif2 h
                have e1 := Nat.eq_of_beq_eq_true h0.1
                cases h0.2
                exact pm_l8 hl e1
              | false =>
                rw [hb7, cond_false] at h
                have h0 := pm_bif2 h
                have e1 := Nat.eq_of_beq_eq_true h0.1
                cases h0.2
                exact pm_l9 hl e1
          | false =>
            rw [hb8, cond_false] at h
            cases hb9 : Nat.blt a.toNat 17 with
            | true =>
              rw [hb9, cond_true] at h
              have h0 := pm_bif2 h
              have e1 := Nat.eq_of_beq_eq_true h0.1
              obtain ⟨x, t, rfl, e2⟩ := pm_o1_inv h0.2
              cases e2
              exact pm_l16 hl e1
            | false =>
              rw [hb9, cond_false] at h
              cases hb10 : Nat.blt a.toNat 18 with
              | true =>
                rw [hb10, cond_true] at h
                have h0 := pm_bif2 h
                have e1 := Nat.eq_of_beq_eq_true h0.1
                obtain ⟨x, y, t, rfl, e2⟩ := pm_o2_inv h0.2
                cases e2
                exact pm_l17 hl e1
              | false =>
                rw [hb10, cond_false] at h
                have h0 := pm_bif2 h
                have e1 := Nat.eq_of_beq_eq_true h0.1
                obtain ⟨x, t, rfl, e2⟩ := pm_o1_inv h0.2
                cases e2
                exact pm_l18 hl e1
      | false =>
        rw [hb11, cond_false] at h
        cases hb16 : Nat.blt a.toNat 27 with
        | true =>
          rw [hb16, cond_true] at h
          cases hb13 : Nat.blt a.toNat 21 with
          | true =>
            rw [hb13, cond_true] at h
            cases hb12 : Nat.blt a.toNat 20 with
            | true =>
              rw [hb12, cond_true] at h
              have h0 := pm_bif2 h
              have e1 := Nat.eq_of_beq_eq_true h0.1
              obtain ⟨x, y, t, rfl, e2⟩ := pm_o2_inv h0.2
              cases e2
              exact pm_l19 hl e1
            | false =>
              rw [hb12, cond_false] at h
              have h0 := pm_bif2 h
              have e1 := Nat.eq_of_beq_eq_true h0.1
              obtain ⟨x, y, t, rfl, e2⟩ := pm_o2_inv h0.2
              cases e2
              exact pm_l20 hl e1
          | false =>
            rw [hb13, cond_false] at h
            cases hb14 : Nat.blt a.toNat 22 with
            | true =>
              rw [hb14, cond_true] at h
              have h0 := pm_bif2 h
              have e1 := Nat.eq_of_beq_eq_true h0.1
              obtain ⟨x, t, rfl, e2⟩ := pm_o1_inv h0.2
              cases e2
              exact pm_l21 hl e1
            | false =>
              rw [hb14, cond_false] at h
              cases hb15 : Nat.blt a.toNat 26 with
              | true =>
                rw [hb15, cond_true] at h
                have h0 := pm_bif2 h
                have e1 := Nat.eq_of_beq_eq_true h0.1
                obtain ⟨x, t, rfl, e2⟩ := pm_o1_inv h0.2
                cases e2
                exact pm_l22 hl e1
              | false =>
                rw [hb15, cond_false] at h
                have h0 := pm_bif2 h
                have e1 := Nat.eq_of_beq_eq_true h0.1
                cases h0.2
                exact pm_l26 hl e1
        | false =>
          rw [hb16, cond_false] at h
          cases hb19 : Nat.blt a.toNat 31 with
          | true =>
            rw [hb19, cond_true] at h
            cases hb17 : Nat.blt a.toNat 28 with
            | true =>
              rw [hb17, cond_true] at h
              have h0 := pm_bif2 h
              have e1 := Nat.eq_of_beq_eq_true h0.1
              cases h0.2
              exact pm_l27 hl e1
            | false =>
              rw [hb17, cond_false] at h
              cases hb18 : Nat.blt a.toNat 29 with
              | true =>
                rw [hb18, cond_true] at h
                have h0 := pm_bif2 h
                have e1 := Nat.eq_of_beq_eq_true h0.1
                cases h0.2
                exact pm_l28 hl e1
              | false =>
                rw [hb18, cond_false] at h
                have h0 := pm_bif2 h
                have e1 := Nat.eq_of_beq_eq_true h0.1
                cases h0.2
                exact pm_l29 hl e1
          | false =>
            rw [hb19, cond_false] at h
            cases hb20 : Nat.blt a.toNat 33 with
            | true =>
              rw [hb20, cond_true] at h
              have h0 := pm_bif2 h
              have e1 := Nat.eq_of_beq_eq_true h0.1
              cases h0.2
              exact pm_l31 hl e1
            | false =>
              rw [hb20, cond_false] at h
              cases hb21 : Nat.blt a.toNat 42 with
              | true =>
                rw [hb21, cond_true] at h
                have h0 := pm_bif2 h
                have e1 := Nat.eq_of_beq_eq_true h0.1
                cases h0.2
                exact pm_l33 hl e1
              | false =>
                rw [hb21, cond_false] at h
                have h0 := pm_bif2 h
                have e1 := Nat.eq_of_beq_eq_true h0.1
                cases h0.2
                exact pm_l42 hl e1
    | false =>
      rw [hb22, cond_false] at h
      cases hb33 : Nat.blt a.toNat 61 with
      | true =>
        rw [hb33, cond_true] at h
        cases hb27 : Nat.blt a.toNat 50 with
        | true =>
          rw [hb27, cond_true] at h
          cases hb24 : Nat.blt a.toNat 45 with
          | true =>
            rw [hb24, cond_true] at h
            cases hb23 : Nat.blt a.toNat 44 with
            | true =>
              rw [hb23, cond_true] at h
              have h0 := pm_bif2 h
              have e1 := Nat.eq_of_beq_eq_true h0.1
              cases h0.2
              exact pm_l43 hl e1
            | false =>
              rw [hb23, cond_false] at h
              have h0 := pm_bif2 h
              have e1 := Nat.eq_of_beq_eq_true h0.1
              cases h0.2
              exact pm_l44 hl e1
          | false =>
            rw [hb24, cond_false] at h
            cases hb25 : Nat.blt a.toNat 46 with
            | true =>
              rw [hb25, cond_true] at h
              have h0 := pm_bif2 h
              have e1 := Nat.eq_of_beq_eq_true h0.1
              cases h0.2
              exact pm_l45 hl e1
            | false =>
              rw [hb25, cond_false] at h
              cases hb26 : Nat.blt a.toNat 47 with
              | true =>
                rw [hb26, cond_true] at h
                have h0 := pm_bif2 h
                have e1 := Nat.eq_of_beq_eq_true h0.1
                cases h0.2
                exact pm_l46 hl e1
              | false =>
                rw [hb26, cond_false] at h
                have h0 := pm_bif2 h
                have e1 := Nat.eq_of_beq_eq_true h0.1
                cases h0.2
                exact pm_l47 hl e1
        | false =>
          rw [hb27, cond_false] at h
          cases hb30 : Nat.blt a.toNat 55 with
          | true =>
            rw [hb30, cond_true] at h
            cases hb28 : Nat.blt a.toNat 51 with
            | true =>
              rw [hb28, cond_true] at h
              have h0 := pm_bif2 h
              have e1 := Nat.eq_of_beq_eq_true h0.1
              cases h0.2
              exact pm_l50 hl e1
            | false =>
              rw [hb28, cond_false] at h
              cases hb29 : Nat.blt a.toNat 54 with
              | true =>
                rw [hb29, cond_true] at h
                have h0 := pm_bif2 h
                have e1 := Nat.eq_of_beq_eq_true h0.1
                cases h0.2
                exact pm_l51 hl e1
              | false =>
                rw [hb29, cond_false] at h
                have h0 := pm_bif2 h
                have e1 := Nat.eq_of_beq_eq_true h0.1
                obtain ⟨x, t, rfl, e2⟩ := pm_o1_inv h0.2
                cases e2
                exact pm_l54 hl e1
          | false =>
            rw [hb30, cond_false] at h
            cases hb31 : Nat.blt a.toNat 59 with
            | true =>
              rw [hb31, cond_true] at h
              have h0 := pm_bif2 h
              have e1 := Nat.eq_of_beq_eq_true h0.1
              obtain ⟨x, t, rfl, e2⟩ := pm_o1_inv h0.2
              cases e2
              exact pm_l55 hl e1
            | false =>
              rw [hb31, cond_false] at h
              cases hb32 : Nat.blt a.toNat 60 with
              | true =>
                rw [hb32, cond_true] at h
                have h0 := pm_bif2 h
                have e1 := Nat.eq_of_beq_eq_true h0.1
                cases h0.2
                exact pm_l59 hl e1
              | false =>
                rw [hb32, cond_false] at h
                have h0 := pm_bif2 h
                have e1 := Nat.eq_of_beq_eq_true h0.1
                cases h0.2
                exact pm_l60 hl e1
      | false =>
        rw [hb33, cond_false] at h
        cases hb38 : Nat.blt a.toNat 79 with
        | true =>
          rw [hb38, cond_true] at h
          cases hb35 : Nat.blt a.toNat 66 with
          | true =>
            rw [hb35, cond_true] at h
            cases hb34 : Nat.blt a.toNat 62 with
            | true =>
              rw [hb34, cond_true] at h
              have h0 := pm_bif2 h
              have e1 := Nat.eq_of_beq_eq_true h0.1
              cases h0.2
              exact pm_l61 hl e1
            | false =>
              rw [hb34, cond_false] at h
              have h0 := pm_bif2 h
              have e1 := Nat.eq_of_beq_eq_true h0.1
              cases h0.2
              exact pm_l62 hl e1
          | false =>
            rw [hb35, cond_false] at h
            cases hb36 : Nat.blt a.toNat 76 with
            | true =>
              rw [hb36, cond_true] at h
              have h0 := pm_bif2 h
              have e1 := Nat.eq_of_beq_eq_true h0.1
              cases h0.2
              exact pm_l66 hl e1
            | false =>
              rw [hb36, cond_false] at h
              cases hb37 : Nat.blt a.toNat 77 with
              | true =>
                rw [hb37, cond_true] at h
                have h0 := pm_bif2 h
                have e1 := Nat.eq_of_beq_eq_true h0.1
                cases h0.2
                exact pm_l76 hl e1
              | false =>
                rw [hb37, cond_false] at h
                have h0 := pm_bif2 h
                have e1 := Nat.eq_of_beq_eq_true h0.1
                cases h0.2
                exact pm_l77 hl e1
        | false =>
          rw [hb38, cond_false] at h
          cases hb41 : Nat.blt a.toNat 84 with
          | true =>
            rw [hb41, cond_true] at h
            cases hb39 : Nat.blt a.toNat 80 with
            | true =>
              rw [hb39, cond_true] at h
              have h0 := pm_bif2 h
              have e1 := Nat.eq_of_beq_eq_true h0.1
              cases h0.2
              exact pm_l79 hl e1
            | false =>
              rw [hb39, cond_false] at h
              cases hb40 : Nat.blt a.toNat 83 with
              | true =>
                rw [hb40, cond_true] at h
                have h0 := pm_bif2 h
                have e1 := Nat.eq_of_beq_eq_true h0.1
                cases h0.2
                exact pm_l80 hl e1
              | false =>
                rw [hb40, cond_false] at h
                have h0 := pm_bif2 h
                have e1 := Nat.eq_of_beq_eq_true h0.1
                cases h0.2
                exact pm_l83 hl e1
          | false =>
            rw [hb41, cond_false] at h
            cases hb42 : Nat.blt a.toNat 87 with
            | true =>
              rw [hb42, cond_true] at h
              have h0 := pm_bif2 h
              have e1 := Nat.eq_of_beq_eq_true h0.1
              cases h0.2
              exact pm_l84 hl e1
            | false =>
              rw [hb42, cond_false] at h
              cases hb43 : Nat.blt a.toNat 89 with
              | true =>
                rw [hb43, cond_true] at h
                have h0 := pm_bif2 h
                have e1 := Nat.eq_of_beq_eq_true h0.1
                cases h0.2
                exact pm_l87 hl e1
              | false =>
                rw [hb43, cond_false] at h
                have h0 := pm_bif2 h
                have e1 := Nat.eq_of_beq_eq_true h0.1
                cases h0.2
                exact pm_l89 hl e1
  | false =>
    rw [hb44, cond_false] at h
    cases hb66 : Nat.blt a.toNat 153 with
    | true =>
      rw [hb66, cond_true] at h
      cases hb55 : Nat.blt a.toNat 125 with
      | true =>
        rw [hb55, cond_true] at h
        cases hb49 : Nat.blt a.toNat 112 with
        | true =>
          rw [hb49, cond_true] at h
          cases hb46 : Nat.blt a.toNat 100 with
          | true =>
            rw [hb46, cond_true] at h
            cases hb45 : Nat.blt a.toNat 96 with
            | true =>
              rw [hb45, cond_true] at h
              have h0 := pm_bif2 h
              have e1 := Nat.eq_of_beq_eq_true h0.1
              cases h0.2
              exact pm_l92 hl e1
            | false =>
              rw [hb45, cond_false] at h
              have h0 := pm_bif2 h
              have e1 := Nat.eq_of_beq_eq_true h0.1
              cases h0.2
              exact pm_l96 hl e1
          | false =>
            rw [hb46, cond_false] at h
            cases hb47 : Nat.blt a.toNat 104 with
            | true =>
              rw [hb47, cond_true] at h
              have h0 := pm_bif2 h
              have e1 := Nat.eq_of_beq_eq_true h0.1
              cases h0.2
              exact pm_l100 hl e1
            | false =>
              rw [hb47, cond_false] at h
              cases hb48 : Nat.blt a.toNat 108 with
              | true =>
                rw [hb48, cond_true] at h
                have h0 := pm_bif2 h
                have e1 := Nat.eq_of_beq_eq_true h0.1
                cases h0.2
                exact pm_l104 hl e1
              | false =>
                rw [hb48, cond_false] at h
                have h0 := pm_bif2 h
                have e1 := Nat.eq_of_beq_eq_true h0.1
                cases h0.2
                exact pm_l108 hl e1
        | false =>
          rw [hb49, cond_false] at h
          cases hb52 : Nat.blt a.toNat 121 with
          | true =>
            rw [hb52, cond_true] at h
            cases hb50 : Nat.blt a.toNat 116 with
            | true =>
              rw [hb50, cond_true] at h
              have h0 := pm_bif2 h
              have e1 := Nat.eq_of_beq_eq_true h0.1
              cases h0.2
              exact pm_l112 hl e1
            | false =>
              rw [hb50, cond_false] at h
              cases hb51 : Nat.blt a.toNat 120 with
              | true =>
                rw [hb51, cond_true] at h
                have h0 := pm_bif2 h
                have e1 := Nat.eq_of_beq_eq_true h0.1
                cases h0.2
                exact pm_l116 hl e1
              | false =>
                rw [hb51, cond_false] at h
                have h0 := pm_bif2 h
                have e1 := Nat.eq_of_beq_eq_true h0.1
                cases h0.2
                exact pm_l120 hl e1
          | false =>
            rw [hb52, cond_false] at h
            cases hb53 : Nat.blt a.toNat 122 with
            | true =>
              rw [hb53, cond_true] at h
              have h0 := pm_bif2 h
              have e1 := Nat.eq_of_beq_eq_true h0.1
              cases h0.2
              exact pm_l121 hl e1
            | false =>
              rw [hb53, cond_false] at h
              cases hb54 : Nat.blt a.toNat 124 with
              | true =>
                rw [hb54, cond_true] at h
                have h0 := pm_bif2 h
                have e1 := Nat.eq_of_beq_eq_true h0.1
                cases h0.2
                exact pm_l122 hl e1
              | false =>
                rw [hb54, cond_false] at h
                have h0 := pm_bif2 h
                have e1 := Nat.eq_of_beq_eq_true h0.1
                cases h0.2
                exact pm_l124 hl e1
      | false =>
        rw [hb55, cond_false] at h
        cases hb60 : Nat.blt a.toNat 130 with
        | true =>
          rw [hb60, cond_true] at h
          cases hb57 : Nat.blt a.toNat 127 with
          | true =>
            rw [hb57, cond_true] at h
            cases hb56 : Nat.blt a.toNat 126 with
            | true =>
              rw [hb56, cond_true] at h
              have h0 := pm_bif2 h
              have e1 := Nat.eq_of_beq_eq_true h0.1
              cases h0.2
              exact pm_l125 hl e1
            | false =>
              rw [hb56, cond_false] at h
              have h0 := pm_bif2 h
              have e1 := Nat.eq_of_beq_eq_true h0.1
              cases h0.2
              exact pm_l126 hl e1
          | false =>
            rw [hb57, cond_false] at h
            cases hb58 : Nat.blt a.toNat 128 with
            | true =>
              rw [hb58, cond_true] at h
              have h0 := pm_bif2 h
              have e1 := Nat.eq_of_beq_eq_true h0.1
              cases h0.2
              exact pm_l127 hl e1
            | false =>
              rw [hb58, cond_false] at h
              cases hb59 : Nat.blt a.toNat 129 with
              | true =>
                rw [hb59, cond_true] at h
                have h0 := pm_bif2 h
                have e1 := Nat.eq_of_beq_eq_true h0.1
                cases h0.2
                exact pm_l128 hl e1
              | false =>
                rw [hb59, cond_false] at h
                have h0 := pm_bif2 h
                have e1 := Nat.eq_of_beq_eq_true h0.1
                cases h0.2
                exact pm_l129 hl e1
        | false =>
          rw [hb60, cond_false] at h
          cases hb63 : Nat.blt a.toNat 133 with
          | true =>
            rw [hb63, cond_true] at h
            cases hb61 : Nat.blt a.toNat 131 with
            | true =>
              rw [hb61, cond_true] at h
              have h0 := pm_bif2 h
              have e1 := Nat.eq_of_beq_eq_true h0.1
              cases h0.2
              exact pm_l130 hl e1
            | false =>
              rw [hb61, cond_false] at h
              cases hb62 : Nat.blt a.toNat 132 with
              | true =>
                rw [hb62, cond_true] at h
                have h0 := pm_bif2 h
                have e1 := Nat.eq_of_beq_eq_true h0.1
                cases h0.2
                exact pm_l131 hl e1
              | false =>
                rw [hb62, cond_false] at h
                have h0 := pm_bif2 h
                have e1 := Nat.eq_of_beq_eq_true h0.1
                obtain ⟨x, y, t, rfl, e2⟩ := pm_oi_inv h0.2
                cases e2
                exact pm_l132 hl e1
          | false =>
            rw [hb63, cond_false] at h
            cases hb64 : Nat.blt a.toNat 136 with
            | true =>
              rw [hb64, cond_true] at h
              have h0 := pm_bif2 h
              have e1 := Nat.eq_of_beq_eq_true h0.1
              cases h0.2
              exact pm_l133 hl e1
            | false =>
              rw [hb64, cond_false] at h
              cases hb65 : Nat.blt a.toNat 148 with
              | true =>
                rw [hb65, cond_true] at h
                have h0 := pm_bif2 h
                have e1 := Nat.eq_of_beq_eq_true h0.1
                cases h0.2
                exact pm_l136 hl e1
              | false =>
                rw [hb65, cond_false] at h
                have h0 := pm_bif2 h
                have e1 := Nat.eq_of_beq_eq_true h0.1
                cases h0.2
                exact pm_l148 hl e1
    | false =>
      rw [hb66, cond_false] at h
      cases hb77 : Nat.blt a.toNat 167 with
      | true =>
        rw [hb77, cond_true] at h
        cases hb71 : Nat.blt a.toNat 159 with
        | true =>
          rw [hb71, cond_true] at h
          cases hb68 : Nat.blt a.toNat 155 with
          | true =>
            rw [hb68, cond_true] at h
            cases hb67 : Nat.blt a.toNat 154 with
            | true =>
              rw [hb67, cond_true] at h
              have h0 := pm_bif2 h
              have e1 := Nat.eq_of_beq_eq_true h0.1
              obtain ⟨x, y, t, rfl, e2⟩ := pm_o2_inv h0.2
              cases e2
              exact pm_l153 hl e1
            | false =>
              rw [hb67, cond_false] at h
              have h0 := pm_bif2 h
              have e1 := Nat.eq_of_beq_eq_true h0.1
              obtain ⟨x, y, t, rfl, e2⟩ := pm_o2_inv h0.2
              cases e2
              exact pm_l154 hl e1
          | false =>
            rw [hb68, cond_false] at h
            cases hb69 : Nat.blt a.toNat 156 with
            | true =>
              rw [hb69, cond_true] at h
              have h0 := pm_bif2 h
              have e1 := Nat.eq_of_beq_eq_true h0.1
              obtain ⟨x, y, t, rfl, e2⟩ := pm_o2_inv h0.2
              cases e2
              exact pm_l155 hl e1
            | false =>
              rw [hb69, cond_false] at h
              cases hb70 : Nat.blt a.toNat 158 with
              | true =>
                rw [hb70, cond_true] at h
                have h0 := pm_bif2 h
                have e1 := Nat.eq_of_beq_eq_true h0.1
                obtain ⟨x, y, t, rfl, e2⟩ := pm_o2_inv h0.2
                cases e2
                exact pm_l156 hl e1
              | false =>
                rw [hb70, cond_false] at h
                have h0 := pm_bif2 h
                have e1 := Nat.eq_of_beq_eq_true h0.1
                obtain ⟨x, y, t, rfl, e2⟩ := pm_o2_inv h0.2
                cases e2
                exact pm_l158 hl e1
        | false =>
          rw [hb71, cond_false] at h
          cases hb74 : Nat.blt a.toNat 162 with
          | true =>
            rw [hb74, cond_true] at h
            cases hb72 : Nat.blt a.toNat 160 with
            | true =>
              rw [hb72, cond_true] at h
              have h0 := pm_bif2 h
              have e1 := Nat.eq_of_beq_eq_true h0.1
              obtain ⟨x, y, t, rfl, e2⟩ := pm_o2_inv h0.2
              cases e2
              exact pm_l159 hl e1
            | false =>
              rw [hb72, cond_false] at h
              cases hb73 : Nat.blt a.toNat 161 with
              | true =>
                rw [hb73, cond_true] at h
                have h0 := pm_bif2 h
                have e1 := Nat.eq_of_beq_eq_true h0.1
                obtain ⟨x, y, t, rfl, e2⟩ := pm_o2_inv h0.2
                cases e2
                exact pm_l160 hl e1
              | false =>
                rw [hb73, cond_false] at h
                have h0 := pm_bif2 h
                have e1 := Nat.eq_of_beq_eq_true h0.1
                obtain ⟨x, y, t, rfl, e2⟩ := pm_o2_inv h0.2
                cases e2
                exact pm_l161 hl e1
          | false =>
            rw [hb74, cond_false] at h
            cases hb75 : Nat.blt a.toNat 163 with
            | true =>
              rw [hb75, cond_true] at h
              have h0 := pm_bif2 h
              have e1 := Nat.eq_of_beq_eq_true h0.1
              obtain ⟨x, y, t, rfl, e2⟩ := pm_o2_inv h0.2
              cases e2
              exact pm_l162 hl e1
            | false =>
              rw [hb75, cond_false] at h
              cases hb76 : Nat.blt a.toNat 164 with
              | true =>
                rw [hb76, cond_true] at h
                have h0 := pm_bif2 h
                have e1 := Nat.eq_of_beq_eq_true h0.1
                obtain ⟨x, y, t, rfl, e2⟩ := pm_o2_inv h0.2
                cases e2
                exact pm_l163 hl e1
              | false =>
                rw [hb76, cond_false] at h
                have h0 := pm_bif2 h
                have e1 := Nat.eq_of_beq_eq_true h0.1
                obtain ⟨x, y, t, rfl, e2⟩ := pm_o2_inv h0.2
                cases e2
                exact pm_l164 hl e1
      | false =>
        rw [hb77, cond_false] at h
        cases hb82 : Nat.blt a.toNat 182 with
        | true =>
          rw [hb82, cond_true] at h
          cases hb79 : Nat.blt a.toNat 177 with
          | true =>
            rw [hb79, cond_true] at h
            cases hb78 : Nat.blt a.toNat 172 with
            | true =>
              rw [hb78, cond_true] at h
              have h0 := pm_bif2 h
              have e1 := Nat.eq_of_beq_eq_true h0.1
              obtain ⟨x, y, t, rfl, e2⟩ := pm_o2_inv h0.2
              cases e2
              exact pm_l167 hl e1
            | false =>
              rw [hb78, cond_false] at h
              have h0 := pm_bif2 h
              have e1 := Nat.eq_of_beq_eq_true h0.1
              cases h0.2
              exact pm_l172 hl e1
          | false =>
            rw [hb79, cond_false] at h
            cases hb80 : Nat.blt a.toNat 180 with
            | true =>
              rw [hb80, cond_true] at h
              have h0 := pm_bif2 h
              have e1 := Nat.eq_of_beq_eq_true h0.1
              cases h0.2
              exact pm_l177 hl e1
            | false =>
              rw [hb80, cond_false] at h
              cases hb81 : Nat.blt a.toNat 181 with
              | true =>
                rw [hb81, cond_true] at h
                have h0 := pm_bif2 h
                have e1 := Nat.eq_of_beq_eq_true h0.1
                obtain ⟨x, y, t, rfl, e2⟩ := pm_o2_inv h0.2
                cases e2
                exact pm_l180 hl e1
              | false =>
                rw [hb81, cond_false] at h
                have h0 := pm_bif2 h
                have e1 := Nat.eq_of_beq_eq_true h0.1
                obtain ⟨x, y, t, rfl, e2⟩ := pm_o2_inv h0.2
                cases e2
                exact pm_l181 hl e1
        | false =>
          rw [hb82, cond_false] at h
          cases hb85 : Nat.blt a.toNat 187 with
          | true =>
            rw [hb85, cond_true] at h
            cases hb83 : Nat.blt a.toNat 183 with
            | true =>
              rw [hb83, cond_true] at h
              have h0 := pm_bif2 h
              have e1 := Nat.eq_of_beq_eq_true h0.1
              obtain ⟨x, y, t, rfl, e2⟩ := pm_o2_inv h0.2
              cases e2
              exact pm_l182 hl e1
            | false =>
              rw [hb83, cond_false] at h
              cases hb84 : Nat.blt a.toNat 184 with
              | true =>
                rw [hb84, cond_true] at h
                have h0 := pm_bif2 h
                have e1 := Nat.eq_of_beq_eq_true h0.1
                obtain ⟨x, y, t, rfl, e2⟩ := pm_o2_inv h0.2
                cases e2
                exact pm_l183 hl e1
              | false =>
                rw [hb84, cond_false] at h
                have h0 := pm_bif2 h
                have e1 := Nat.eq_of_beq_eq_true h0.1
                obtain ⟨x, y, t, rfl, e2⟩ := pm_o2_inv h0.2
                cases e2
                exact pm_l184 hl e1
          | false =>
            rw [hb85, cond_false] at h
            cases hb86 : Nat.blt a.toNat 189 with
            | true =>
              rw [hb86, cond_true] at h
              have h0 := pm_bif2 h
              have e1 := Nat.eq_of_beq_eq_true h0.1
              obtain ⟨x, y, t, rfl, e2⟩ := pm_o2_inv h0.2
              cases e2
              exact pm_l187 hl e1
            | false =>
              rw [hb86, cond_false] at h
              cases hb87 : Nat.blt a.toNat 190 with
              | true =>
                rw [hb87, cond_true] at h
                have h0 := pm_bif2 h
                have e1 := Nat.eq_of_beq_eq_true h0.1
                obtain ⟨x, y, t, rfl, e2⟩ := pm_o2_inv h0.2
                cases e2
                exact pm_l189 hl e1
              | false =>
                rw [hb87, cond_false] at h
                have h0 := pm_bif2 h
                have e1 := Nat.eq_of_beq_eq_true h0.1
                cases h0.2
                exact pm_l190 hl e1
noncomputable def pm_fd (l : List UInt8) : Option (Instr × Nat) := match l with
  | a :: r => pm_fd1 a.toNat r
  | _ => none
noncomputable def pm_pre (cc : ByteArray) (pc : Nat) (e : pm_E) (l : List UInt8) : Bool := match pm_fd l with
  | some z => decide (z = (e.1, e.2.1 - pc))
  | none => decide (decode cc pc = .ok (e.1, e.2.1 - pc))
theorem pm_pre_ok {cc : ByteArray} {pc : Nat} {e : pm_E} (h : pm_pre cc pc e (cc.data.toList.drop pc) = true) : decode cc pc = .ok (e.1, e.2.1 - pc) := by
  unfold pm_pre at h
  cases hl : cc.data.toList.drop pc with
  | nil =>
    rw [hl] at h
    exact of_decide_eq_true h
  | cons a r =>
    rw [hl] at h
    cases hz : pm_fd (a :: r) with
    | none =>
      rw [hz] at h
      exact of_decide_eq_true h
    | some z =>
      rw [hz] at h
      have e1 : z = (e.1, e.2.1 - pc) := of_decide_eq_true h
      rw [e1] at hz
      exact pm_fd1_ok hl hz
/-- an entry of the table against the links -/
noncomputable def pm_chk0 (y : MethodName) (ret : Option FieldType) (o : Nat) (pc : Nat) (e : pm_E) : Bool :=
  pm_ilok pc e &&
  match e with
  | (.getfield i, _, a, b, _, _) => pm_fl.any (fun r => r.1 == o && r.2.1 == i && r.2.2.1 == a && r.2.2.2.1 == b)
  | (.putfield i, _, a, b, _, _) => pm_fl.any (fun r => r.1 == o && r.2.1 == i && r.2.2.1 == a && r.2.2.2.1 == b) && (!pm_fin a b || (decide (y.name = "<init>") && o == a))
  | (.if_icmp _ off, _, a, _, _, _) => decide ((pc : Int) + off = (a : Int))
  | (.ifCond _ off, _, a, _, _, _) => decide ((pc : Int) + off = (a : Int))
  | (.goto off, _, a, _, _, _) => decide ((pc : Int) + off = (a : Int))
  | (.invokevirtual i, _, a, b, c, d) => pm_ca.any (fun r => r.1 == o && r.2.1 == i && r.2.2.1 == 0 && r.2.2.2.1 == a && r.2.2.2.2.1 == b && r.2.2.2.2.2.1 == c && r.2.2.2.2.2.2.1 == d)
  | (.invokestatic i, _, a, b, c, d) => pm_ca.any (fun r => r.1 == o && r.2.1 == i && (r.2.2.1 == 1 || r.2.2.1 == 3) && r.2.2.2.1 == a && r.2.2.2.2.1 == b && r.2.2.2.2.2.1 == c && r.2.2.2.2.2.2.1 == d)
  | (.invokespecial i, _, a, b, c, d) => pm_ca.any (fun r => r.1 == o && r.2.1 == i && (r.2.2.1 == 2 || r.2.2.1 == 4) && r.2.2.2.1 == a && r.2.2.2.2.1 == b && r.2.2.2.2.2.1 == c && r.2.2.2.2.2.2.1 == d)
  | (.new i, _, a, b, _, _) => pm_nw.any (fun r => r.1 == o && r.2.1 == i && r.2.2.1 == a && r.2.2.2.1 == b)
  | (.anewarray i, _, _, _, _, _) => pm_an.any (fun r => r.1 == o && r.2.1 == i)
  | (.ldc i, _, a, _, _, _) => pm_ic.any (fun r => r.1 == o && r.2.1 == i && r.2.2.1 == a)
  | (.ldc_w i, _, a, _, _, _) => pm_ic.any (fun r => r.1 == o && r.2.1 == i && r.2.2.1 == a)
  | (.ldc2_w i, _, a, _, _, _) => pm_lc.any (fun r => r.1 == o && r.2.1 == i && r.2.2.1 == a)
  | (.ireturn, _, a, _, _, _) => decide (ret = some (if a = 0 then .int else .boolean))
  | (.return_, _, _, _, _, _) => decide (ret = none)
  | (.lookupswitch _ ps, _, _, _, _, _) => (ps.toList.zip (ps.toList.drop 1)).all (fun (a, next) => a.1 < next.1)
  | _ => true
theorem pm_chk_of {y : MethodName} {cc : ByteArray} {ret : Option FieldType} {o pc : Nat} {e : pm_E} (h0 : decode cc pc = .ok (e.1, e.2.1 - pc)) (h1 : pm_chk0 y ret o pc e = true) : pm_chk y cc ret o pc e = true := by
  unfold pm_chk
  rw [decide_eq_true h0, Bool.true_and]
  exact h1
noncomputable def pm_lw (F : Nat → List UInt8 → Bool) : List Nat → List UInt8 → Bool
  | [], _ => true
  | p :: ps, l => F p l && pm_lw F ps l.tail
theorem pm_lw_get {F : Nat → List UInt8 → Bool} {n : Nat} : ∀ {a : Nat} {l : List UInt8}, pm_lw F (List.range' a n) l = true → ∀ p, a ≤ p → p < a + n → F p (l.drop (p - a)) = true := by
  induction n with
  | zero => intro a l h p h1 h2; omega
  | succ n ih =>
    intro a l h p h1 h2
    have h : (F a l && pm_lw F (List.range' (a + 1) n) l.tail) = true := h
    rw [Bool.and_eq_true] at h
    by_cases e : p = a
    · subst e
      rw [Nat.sub_self]
      exact h.1
    · have q := ih h.2 p (by omega) (by omega)
      have e3 : l.tail.drop (p - (a + 1)) = l.drop (p - a) := by
        rw [← List.drop_one, List.drop_drop]
        congr 1
        omega
      rw [e3] at q
      exact q
noncomputable def pm_F (t : Nat → Option pm_E) (y : MethodName) (cc : ByteArray) (ret : Option FieldType) (o : Nat) (p : Nat) (l : List UInt8) : Bool := match t p with
  | none => true
  | some e => pm_pre cc p e l && pm_chk0 y ret o p e
theorem pm_kl {t : Nat → Option pm_E} {y : MethodName} {cc : ByteArray} {ret : Option FieldType} {o L : Nat} (h : pm_lw (pm_F t y cc ret o) (List.range' 0 L) cc.data.toList = true) {n : Nat} {e : pm_E} (hn : n < L) (he : t n = some e) : pm_chk y cc ret o n e = true := by
  have q := pm_lw_get h n (Nat.zero_le _) (by omega)
  rw [Nat.sub_zero] at q
  unfold pm_F at q
  rw [he] at q
  have q : (pm_pre cc n e (cc.data.toList.drop n) && pm_chk0 y ret o n e) = true := q
  rw [Bool.and_eq_true] at q
  exact pm_chk_of (pm_pre_ok q.1) q.2

