noncomputable def pm_fin (a b : Nat) : Bool := (vwCl[a]?).any (fun q => (q.2.1 b).2.2.2)
/-- how long an instruction is (switches apart) -/
noncomputable def pm_il (ins : Instr) : Nat := match ins with
  | .bipush _ | .ldc _ | .iload _ | .lload _ | .aload _ | .istore _ | .lstore _ | .newarray _ => 2
  | .sipush _ | .ldc_w _ | .ldc2_w _ | .iinc _ _ | .if_icmp _ _ | .ifCond _ _ | .goto _ | .getfield _ | .putfield _ | .new _ | .anewarray _ | .invokevirtual _ | .invokestatic _ | .invokespecial _ => 3
  | _ => 1
noncomputable def pm_ilok (pc : Nat) (e : pm_E) : Bool := match e.1 with
  | .tableswitch _ _ _ _ => true
  | .lookupswitch _ _ => true
  | i => Nat.beq e.2.1 (pc + pm_il i)
/-- an entry of the code's table against the bytes and the links -/
noncomputable def pm_chk (y : MethodName) (cc : ByteArray) (ret : Option FieldType) (o : Nat) (pc : Nat) (e : pm_E) : Bool :=
  decide (decode cc pc = .ok (e.1, e.2.1 - pc)) && pm_ilok pc e &&
  match e with
  | (.getfield i, _, a, b, _, _) => pm_fl.any (fun r => r.1 == o && r.2.1 == i && r.2.2.1 == a && r.2.2.2.1 == b)
  | (.putfield i, _, a, b, _, _) => pm_fl.any (fun r => r.1 == o && r.2.1 == i && r.2.2.1 == a && r.2.2.2.1 == b) && (!pm_fin a b || (decide (y.name = "<init>") && o == a))
  | (.if_icmp _ off, _, a, _, _, _) => decide ((pc : Int) + off = (a : Int))
  | (.ifCond _ off, _, a, _, _, _) => decide ((pc : Int) + off = (a : Int))
  | (.goto off, _, a, _, _, _) => decide ((pc : Int) + off = (a : Int))
  | (.invokevirtual i, _, a, b, c, d) => pm_ca.any (fun r => r.1 == o && r.2.1 == i && r.2.2.1 == 0 && r.2.2.2.1 == a && r.2.2.2.2.1 == b && r.2.2.2.2.2.1 == c && r.2.2.2.2.2.2.1 == d)
  | (.invokestatic i, _, a, b, c, d) => pm_ca.any (fun r => r.1 == o && r.2.1 == i && (r.2.2.1 == 1 || r.2.2.1 == 3) && r.2.2.2.1 == a && r.2.2.2.2.1 == b && r.2.2.2.2.2.1 == c && r.2.2.2.2.2.2.1 == d)
  | (.invokespecial i, _, a, b, c, d) => pm_ca.any (fun r => r.1 == o && r.2.1 == i && (r.2.2.1 == 2 || r.2.2.1 == 4) && r.2.2.2.1 == a && r.2.2.2.2.1 == b && r.2.2.2.2.2.1 == c && r.2.2.2.2.2.2.1 == d)
  | (.new i, _, a, b, _, _) => pm_nw.any (fun r => r.1 == o && r.2.1 == i && r.2.2.1 == a && r.2.2.2.1 == b)
  | (.anewarray i, _, _, _, _, _) => pm_an.any (fun r => r.1 == o && r.2.1 == i)
  | (.ldc i, _, a, _, _, _) => pm_ic.any (fun r => r.1 == o && r.2.1 == i && r.2.2.1 == a)
  | (.ldc_w i, _, a, _, _, _) => pm_ic.any (fun r => r.1 == o && r.2.1 == i && r.2.2.1 == a)
  | (.ldc2_w i, _, a, _, _, _) => pm_lc.any (fun r => r.1 == o && r.2.1 == i && r.2.2.1 == a)
  | (.ireturn, _, a, _, _, _) => decide (ret = some (if a = 0 then .int else .boolean))
  | (.return_, _, _, _, _, _) => decide (ret = none)
  | (.lookupswitch _ ps, _, _, _, _, _) => (ps.toList.zip (ps.toList.drop 1)).all (fun (a, next) => a.1 < next.1)
  | _ => true
/-- the links' words -/
noncomputable def pm_okf (r : Nat × Nat × Nat × Nat × Nat) : Bool := match r with
  | (o, i, a, b, p) => match vwCl[a]? with
    | none => false
    | some (_, T, N) => Nat.blt b N && pm_at p (.fieldLink (pm_nm o) i (T b).1 (T b).2.1 (T b).2.2.1) && (!pm_fin a b || o != a || decide ((T b).1 = pm_nm o))
noncomputable def pm_cw (M : pm_M) : Cond := .code M.1 M.2.1 M.2.2.1 M.2.2.2.1
noncomputable def pm_okm (M : pm_M) (q : Nat × Nat × Nat × Nat × Nat) : Bool := pm_at q.2.2.2.2 (.initialized M.1.cls) && decide (M.1.cls = pm_nm M.2.2.2.2.1) && Jvm.plainName M.1.cls && decide (M.1.cls ≠ "java/lang/invoke/MethodHandle" ∧ M.1.cls ≠ "java/lang/invoke/VarHandle") && Nat.ble M.2.2.1 20 &&
  (bif q.2.1 == 1 then pm_at q.2.2.1 (.static M.1) else bif q.2.1 == 2 then pm_at q.2.2.1 (.instanceMethod M.1) && decide (M.1.name = "<init>") && decide (M.2.2.2.1 = none) else pm_at q.2.2.1 (.instanceMethod M.1) && pm_at q.2.2.2.1 (.selects M.1.cls M.1 M.1))
noncomputable def pm_okc (r : Nat × Nat × Nat × Nat × Nat × Nat × Nat × Nat) : Bool := match r with
  | (o, i, k, a, b, c, d, p) =>
    bif a == 998 then k == 2 && pm_at p (.methodLink (pm_nm o) i objectInit)
    else bif a == 999 then k == 1 && pm_at p (.methodLink (pm_nm o) i arraycopyName)
    else bif a == 997 then k == 1 && pm_at p (.methodLink (pm_nm o) i Lib.Math.max.name)
    else bif a == 996 then k == 1 && pm_at p (.methodLink (pm_nm o) i Lib.Math.min.name)
    else match pm_mt[a]?, pm_mp[a]? with
      | some M, some q => (M.2.2.1 == d) && decide ((parseMethodDescriptor M.1.desc).map (fun d => d.parameters.length) = some b) &&
          (bif k == 0 then q.2.1 == 0 && pm_at p (.methodLink (pm_nm o) i M.1) && decide ((vwCl[c]?).map (fun q => q.1) = some M.1.cls)
           else bif k == 1 then q.2.1 == 1 && pm_at p (.methodLink (pm_nm o) i M.1)
           else bif k == 3 then q.2.1 == 1 && decide (lw_tbl[p]? = some (.methodLinkNest (pm_nm o) i M.1 "DrawLooms"))
           else bif k == 2 then q.2.1 == 2 && pm_at p (.methodLink (pm_nm o) i M.1)
           else k == 4 && q.2.1 == 2 && decide (lw_tbl[p]? = some (.methodLinkNest (pm_nm o) i M.1 "DrawLooms")))
      | _, _ => false
noncomputable def pm_okn (r : Nat × Nat × Nat × Nat × Nat × Nat × Nat) : Bool := match r with
  | (o, i, a, b, p, p2, p3) => match vwCl[a]? with
    | none => false
    | some (C, _, N) => N == b && pm_at p (.classLink (pm_nm o) i C) && pm_at p2 (.instantiable C N) && pm_at p3 (.initialized C)

