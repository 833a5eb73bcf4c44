abbrev xEnt : Type := Nat × Instr × Nat × Nat × Nat
abbrev xM : Type := MethodName × ByteArray × List (List xEnt) × Nat × Nat × Option FieldType × Nat × Nat × Nat × Nat × Nat × Nat
def xMy (M : xM) : MethodName := M.1
def xMc (M : xM) : ByteArray := M.2.1
def xMt (M : xM) : List (List xEnt) := M.2.2.1
def xMo (M : xM) : Nat := M.2.2.2.1
def xMn (M : xM) : Nat := M.2.2.2.2.1
def xMr (M : xM) : Option FieldType := M.2.2.2.2.2.1
def xMp (M : xM) : Nat := M.2.2.2.2.2.2.1
def xMk (M : xM) : Nat := M.2.2.2.2.2.2.2.1
/-! what is tested of the tables, once -/
def xFin (ci k : Nat) : Bool := match vwCl[ci]? with
  | some q => (q.2.1 k).2.2.2
  | none => true
def xAux (own kind : Nat) (ins : Instr) (a b : Nat) : Bool := match ins with
  | .getfield i => xFs.any (fun r => Nat.beq r.1 own && (Nat.beq r.2.1 i && (Nat.beq r.2.2.1 a && Nat.beq r.2.2.2.1 b)))
  | .putfield i => xFs.any (fun r => Nat.beq r.1 own && (Nat.beq r.2.1 i && (Nat.beq r.2.2.1 a && (Nat.beq r.2.2.2.1 b && (!(xFin a b) || (Nat.beq kind 2 && (Nat.beq own a && Nat.beq r.2.2.2.2.1 0)))))))
  | .invokevirtual i => Nat.ble b 1 && xCs.any (fun r => Nat.beq r.1 own && (Nat.beq r.2.1 i && (Nat.beq r.2.2.1 a && Nat.beq r.2.2.2.1 b)))
  | .invokestatic i => (Nat.beq b 2 || (Nat.beq b 3 || (Nat.beq b 7 || Nat.beq b 8))) && xCs.any (fun r => Nat.beq r.1 own && (Nat.beq r.2.1 i && (Nat.beq r.2.2.1 a && Nat.beq r.2.2.2.1 b)))
  | .invokespecial i => (Nat.beq b 4 || (Nat.beq b 5 || Nat.beq b 9)) && xCs.any (fun r => Nat.beq r.1 own && (Nat.beq r.2.1 i && (Nat.beq r.2.2.1 a && Nat.beq r.2.2.2.1 b)))
  | .new i => xNs.any (fun r => Nat.beq r.1 own && (Nat.beq r.2.1 i && Nat.beq r.2.2.1 a))
  | .newarray t => (match t with
    | .int => Nat.beq a 0
    | .long => Nat.beq a 1
    | .boolean => Nat.beq a 2
    | _ => false)
  | .anewarray i => xNs.any (fun r => Nat.beq r.1 own && (Nat.beq r.2.1 i && ((Nat.beq r.2.2.1 1 && Nat.beq a 3) || (Nat.beq r.2.2.1 6 && Nat.beq a 4))))
  | .ldc i => (match xI32[a]? with
    | some q => Nat.beq q.1 own && Nat.beq q.2.1 i
    | none => false)
  | .ldc_w i => (match xI32[a]? with
    | some q => Nat.beq q.1 own && Nat.beq q.2.1 i
    | none => false)
  | .ldc2_w i => (match xI64[a]? with
    | some q => Nat.beq q.1 own && Nat.beq q.2.1 i
    | none => false)
  | _ => true
def xlen (ins : Instr) : Nat := match ins with
  | .bipush _ => 2
  | .iload _ => 2
  | .lload _ => 2
  | .aload _ => 2
  | .istore _ => 2
  | .lstore _ => 2
  | .astore _ => 2
  | .newarray _ => 2
  | .ldc _ => 2
  | .sipush _ => 3
  | .ldc_w _ => 3
  | .ldc2_w _ => 3
  | .iinc _ _ => 3
  | .ifCond _ _ => 3
  | .if_icmp _ _ => 3
  | .ifnull _ => 3
  | .ifnonnull _ => 3
  | .goto _ => 3
  | .getfield _ => 3
  | .putfield _ => 3
  | .anewarray _ => 3
  | .new _ => 3
  | .invokevirtual _ => 3
  | .invokestatic _ => 3
  | .invokespecial _ => 3
  | .tableswitch _ _ _ _ => 0
  | .lookupswitch _ _ => 0
  | _ => 1
def xTok (cc : ByteArray) (own kind : Nat) (t : List (List xEnt)) : Bool :=
  t.all (fun bk => bk.all (fun q => decide (decode cc q.1 = .ok (q.2.1, q.2.2.1)) && (Nat.beq (xlen q.2.1) 0 || Nat.beq q.2.2.1 (xlen q.2.1)) && xAux own kind q.2.1 q.2.2.2.1 q.2.2.2.2))
def xWd (p : Nat) (w : Cond) : Bool := decide (tables_1[p]? = some w) && goodWord w
def xWn (p : Nat) (w : Cond) : Bool := decide (tables_1[p]? = some w)
def xPos (M : xM) : Nat × Nat × Nat × Nat := M.2.2.2.2.2.2.2.2
def xMok (M : xM) : Bool :=
  xTok (xMc M) (xMo M) (xMk M) (xMt M) && (xWd (xPos M).1 (.code (xMy M) (xMc M) (xMn M) (xMr M)) && (xWd (xPos M).2.2.2 (.initialized (xMy M).cls) && (Nat.ble (xMn M) 22 && (
  plainName (xMy M).cls && (decide ((xMy M).cls ≠ "java/lang/invoke/MethodHandle" ∧ (xMy M).cls ≠ "java/lang/invoke/VarHandle" ∧ (parseMethodDescriptor (xMy M).desc).map (fun d => d.parameters.length) = some (xMp M)) && (decide (xRC (xMo M) = (xMy M).cls) && (
  match xMk M with
  | 1 => xWd (xPos M).2.1 (.static (xMy M))
  | 2 => xWd (xPos M).2.1 (.instanceMethod (xMy M)) && (decide ((xMy M).name = "<init>" ∧ xMr M = none) && decide ((vwCl[xMo M]?).map (fun q => q.1) = some (xMy M).cls))
  | _ => xWd (xPos M).2.1 (.instanceMethod (xMy M)) && (decide ((vwCl[xMo M]?).map (fun q => q.1) = some (xMy M).cls) &&
      (xWd (xPos M).2.2.1 (.selects (xMy M).cls (xMy M) (xMy M)) || (decide ((lw_privs[(xPos M).2.2.1 - 100000]?).map (fun q => q.1) = some (xMy M)) && goodWord (.selects (xMy M).cls (xMy M) (xMy M))))))))))))
def xFok (r : Nat × Nat × Nat × Nat × Nat × Nat) : Bool := match vwCl[r.2.2.1]? with
  | some q => Nat.blt r.2.2.2.1 q.2.2 && (match r.2.2.2.2.1 with
    | 0 => xWd r.2.2.2.2.2 (.fieldLink (xRC r.1) r.2.1 (q.2.1 r.2.2.2.1).1 (q.2.1 r.2.2.2.1).2.1 (q.2.1 r.2.2.2.1).2.2.1)
    | _ => xWn r.2.2.2.2.2 (.fieldLinkNest (xRC r.1) r.2.1 (q.2.1 r.2.2.2.1).1 (q.2.1 r.2.2.2.1).2.1 (q.2.1 r.2.2.2.1).2.2.1 "PulledSignals"))
  | none => false
def xCok (Ms : List xM) (r : Nat × Nat × Nat × Nat × Nat) : Bool := match r.2.2.2.1 with
  | 9 => xWd r.2.2.2.2 (.methodLink (xRC r.1) r.2.1 objectInit)
  | 8 => xWd r.2.2.2.2 (.methodLink (xRC r.1) r.2.1 Lib.Math.min.name)
  | 7 => xWd r.2.2.2.2 (.methodLink (xRC r.1) r.2.1 Lib.Math.max.name)
  | b => (match Ms[r.2.2.1]? with
    | some M => bif Nat.beq (b % 2) 0 then xWd r.2.2.2.2 (.methodLink (xRC r.1) r.2.1 (xMy M)) else xWn r.2.2.2.2 (.methodLinkNest (xRC r.1) r.2.1 (xMy M) "PulledSignals")
    | none => false)
def xNok (r : Nat × Nat × Nat × Nat) : Bool := match vwCl[r.2.2.1]? with
  | some q => xWd r.2.2.2 (.classLink (xRC r.1) r.2.1 q.1)
  | none => false
def xOIok : Bool := tables_1.any (fun w => decide (w = .instanceMethod objectInit) && goodWord w) && tables_1.any (fun w => decide (w = .code objectInit ⟨#[0xb1]⟩ 1 none) && goodWord w)
def xLok : Nat → List Nat → List vw_C → Bool
  | _, _, [] => true
  | k, ps, q :: cl => ((u_ws q.1 q.2.1 q.2.2).zip ((xLy[k]?).getD [])).all (fun z => xWd z.2 z.1) && (Nat.beq ((xLy[k]?).getD []).length q.2.2 && (xWd ((xIn[k]?).getD (0, 0)).1 (.instantiable q.1 q.2.2) && (xWd ((xIn[k]?).getD (0, 0)).2 (.initialized q.1) && xLok (k + 1) ps cl)))
def xAAok : Bool := tables_1.any (fun w => decide (w = .arrayClass .int)) && (tables_1.any (fun w => decide (w = .arrayClass .long)) && (tables_1.any (fun w => decide (w = .arrayClass .boolean)) && (tables_1.any (fun w => decide (w = .arrayOver (.object "PulledSignals$Cell"))) && tables_1.any (fun w => decide (w = .arrayOver (.object "PulledSignals$Shelf"))))))
theorem xFs_ok : xFs.all xFok = true := by decide +kernel
theorem xNs_ok : xNs.all xNok = true := by decide +kernel
theorem xI32_ok : xI32.all (fun q => xWd q.2.2.2 (.constant (xRC q.1) q.2.1 q.2.2.1)) = true := by decide +kernel
theorem xI64_ok : xI64.all (fun q => xWd q.2.2.2 (.constantLong (xRC q.1) q.2.1 q.2.2.1)) = true := by decide +kernel
theorem xLy_ok : xLok 0 [] vwCl = true := by decide +kernel
theorem xOI_ok : xOIok = true := by decide +kernel
theorem xAA_ok : xAAok = true := by decide +kernel
