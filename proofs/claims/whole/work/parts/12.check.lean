def xlnB (ins : Instr) (len : Nat) : Bool := match ins with
  | .iload _ => len == 2 | .lload _ => len == 2 | .aload _ => len == 2 | .istore _ => len == 2 | .iinc _ _ => len == 3
  | .bipush _ => len == 2 | .sipush _ => len == 3 | .ldc _ => len == 2 | .ldc_w _ => len == 3 | .ldc2_w _ => len == 3
  | .goto _ => len == 3 | .ifCond _ _ => len == 3 | .if_icmp _ _ => len == 3
  | .getfield _ => len == 3 | .putfield _ => len == 3 | .new _ => len == 3 | .newarray _ => len == 2
  | .invokevirtual _ => len == 3 | .invokespecial _ => len == 3 | .invokestatic _ => len == 3
  | .tableswitch _ _ _ _ => true | .lookupswitch _ _ => true
  | _ => len == 1
theorem xln_of {ins : Instr} {len : Nat} (h : xlnB ins len = true) : xln ins len := by
  cases ins <;> first | exact trivial | exact of_decide_eq_true h | exact eq_of_beq h
def xckE (row : xMi) (e : xE) : Bool := decide (decode row.2.1 e.1 = .ok (e.2.1, e.2.2.1)) && (xlnB e.2.1 e.2.2.1 && (xck1 row e.2.1 e.2.2.2.2.1 e.2.2.2.2.2.2.1 && (xck3 row e.2.1 e.1 e.2.2.2.1.1 e.2.2.2.1.2.2.2 e.2.2.2.2.2.1 && (xck4 row e.2.1 e.2.2.2.1.1 e.2.2.2.1.2.1 e.2.2.2.1.2.2.1 e.2.2.2.2.2.2.1 && xck5 row e.2.1 e.2.2.2.1.1 e.2.2.2.1.2.1 e.2.2.2.1.2.2.1 e.2.2.2.1.2.2.2 e.2.2.2.2.2.2.1))))
def xckT (mi : Nat) : Bool := match xMs[mi]? with
  | none => true
  | some row => (xnth xTs mi).all (xckE row)
