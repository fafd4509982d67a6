/-! ===== an abstract world: how many cells and slots, what kind each cell is (0..9: an object of that class; 10 booleans, 11 ints, so many; 12 the script), references, ints, longs ===== -/
abbrev xSh : Type := Nat × Nat × (Nat → Nat × Nat) × (Nat → Nat → Nat)
abbrev xW : Type := xSh × (Nat → Nat → Int32) × (Nat → Nat → Int64)
abbrev xSt : Type := Nat × Nat × List Value × List Value × xW
abbrev xR : Type := Option Value × xW
abbrev xAct : Type := (Bool × xSt × Option xSt) ⊕ (Bool × xR) ⊕ (Bool × xSt × (Nat × Nat × List Value × List Value)) ⊕ (Int32 × List (Int32 × xSt) × xSt)
def xu {α : Type} (M : Nat → Nat → α) (a i : Nat) (v : α) : Nat → Nat → α := fun a' i' => if a' = a ∧ i' = i then v else M a' i'
def xur {α : Type} (M : Nat → α) (a : Nat) (v : α) : Nat → α := fun a' => if a' = a then v else M a'
def xcp (M : Nat → Nat → Int32) (a0 sp a1 dp n : Nat) : Nat → Nat → Int32 := fun a' i' => if a' = a1 ∧ dp ≤ i' ∧ i' < dp + n then M a0 (sp + (i' - dp)) else M a' i'
def xin (i : Int32) (n : Nat) : Bool := !(decide (i < 0) || decide (n ≤ i.toNatClampNeg))
def xtg (pc : Nat) (off : Int) : Nat := ((pc : Int) + off).toNat
def xkill (ds : List Nat) (ls : List Value) : List Value := ds.foldl (fun l i => l.set i .null) ls
def xcl (ls : List Value) (i : Nat) : List Value := match i with
  | 0 => ls
  | j + 1 => match ls[j]? with
    | some v => bif v.category == 2 then ls.set j .null else ls
    | none => ls
def xst1 (ls : List Value) (i : Nat) (v : Value) : List Value := (xcl ls i).set i v
def xst2 (ls : List Value) (i : Nat) (v : Value) : List Value := ((xcl ls i).set i v).set (i + 1) .null
def xfind (t : List xE) (pc : Nat) : Option xE := match t with
  | [] => none
  | e :: r => bif Nat.beq e.1 pc then some e else xfind r pc
def xnth {α : Type} (l : List (List α)) (n : Nat) : List α := match l, n with
  | [], _ => []
  | a :: _, 0 => a
  | _ :: r, n + 1 => xnth r n
def xnext (s : xSt) : Option xAct := some (.inl (true, s, none))
def xg (c : Bool) (s : xSt) : Option xAct := some (.inl (c, s, none))
def xbr (c : Bool) (s1 s2 : xSt) : Option xAct := some (.inl (c, s1, some s2))
def xargs (vs : List Value) : List Value := vs.flatMap fun v => if v.category = 2 then [v, .null] else [v]
def xlocs (vs : List Value) (n : Nat) : List Value := xargs vs ++ List.replicate (n - (xargs vs).length) .null
def xcall (c : Bool) (callee : Nat) (vs : List Value) (maxl : Nat) (mi pc : Nat) (ls rest : List Value) (w : xW) : Option xAct :=
  some (.inr (.inr (.inl (c && (decide ((rest.map fun v => v.category).sum ≤ 8) && decide ((xargs vs).length ≤ maxl)), (callee, 0, xlocs vs maxl, [], w), (mi, pc, ls, rest)))))
def xcond (c : Jvm.ClassFile.Cond) (x y : Int32) : Bool := match c with
  | .eq => decide (x = y)
  | .ne => !decide (x = y)
  | .lt => decide (x < y)
  | .ge => decide (y ≤ x)
  | .gt => decide (y < x)
  | .le => decide (x ≤ y)
def xrem (x y : Int32) : Int32 := x - x / y * y
def xmax (x y : Int32) : Int32 := if x < y then y else x
def xmin (x y : Int32) : Int32 := if y < x then y else x
def xremL (x y : Int64) : Int64 := x - x / y * y
/-- loads, stores, constants -/
def xop1 (ins : Instr) (v : Value) (mi pc : Nat) (ls st : List Value) (w : xW) : Option xAct := match ins with
  | .iload_n k => match ls[k.val]? with
    | some (.int a) => xnext (mi, pc + 1, ls, .int a :: st, w)
    | _ => none
  | .iload k => match ls[k]? with
    | some (.int a) => xnext (mi, pc + 2, ls, .int a :: st, w)
    | _ => none
  | .lload_n k => match ls[k.val]? with
    | some (.long a) => xnext (mi, pc + 1, ls, .long a :: st, w)
    | _ => none
  | .lload k => match ls[k]? with
    | some (.long a) => xnext (mi, pc + 2, ls, .long a :: st, w)
    | _ => none
  | .aload_n k => match ls[k.val]? with
    | some (.ref a) => xnext (mi, pc + 1, ls, .ref a :: st, w)
    | some (.retAddr a) => xnext (mi, pc + 1, ls, .retAddr a :: st, w)
    | _ => none
  | .aload k => match ls[k]? with
    | some (.ref a) => xnext (mi, pc + 2, ls, .ref a :: st, w)
    | some (.retAddr a) => xnext (mi, pc + 2, ls, .retAddr a :: st, w)
    | _ => none
  | .istore_n k => match st with
    | .int a :: st => xnext (mi, pc + 1, xst1 ls k.val (.int a), st, w)
    | _ => none
  | .istore k => match st with
    | .int a :: st => xnext (mi, pc + 2, xst1 ls k (.int a), st, w)
    | _ => none
  | .lstore_n k => match st with
    | .long a :: st => xnext (mi, pc + 1, xst2 ls k.val (.long a), st, w)
    | _ => none
  | .astore_n k => match st with
    | .ref a :: st => xnext (mi, pc + 1, xst1 ls k.val (.ref a), st, w)
    | _ => none
  | .iinc i n => match ls[i]? with
    | some (.int a) => xnext (mi, pc + 3, xst1 ls i (.int (a + Int32.ofInt n)), st, w)
    | _ => none
  | .iconst _ => xnext (mi, pc + 1, ls, v :: st, w)
  | .bipush _ => xnext (mi, pc + 2, ls, v :: st, w)
  | .sipush _ => xnext (mi, pc + 3, ls, v :: st, w)
  | .lconst _ => xnext (mi, pc + 1, ls, v :: st, w)
  | .ldc _ => xnext (mi, pc + 2, ls, v :: st, w)
  | .ldc_w _ => xnext (mi, pc + 3, ls, v :: st, w)
  | .ldc2_w _ => xnext (mi, pc + 3, ls, v :: st, w)
  | .dup => match st with
    | v :: st => xg (v.category == 1) (mi, pc + 1, ls, v :: v :: st, w)
    | _ => none
  | .dup2 => match st with
    | a :: b :: st => xg (a.category == 1 && b.category == 1) (mi, pc + 1, ls, a :: b :: a :: b :: st, w)
    | _ => none
  | .pop => match st with
    | v :: st => xg (v.category == 1) (mi, pc + 1, ls, st, w)
    | _ => none
  | _ => none
/-- arithmetic -/
def xop2 (ins : Instr) (mi pc : Nat) (ls st : List Value) (w : xW) : Option xAct := match ins with
  | .iadd => match st with
    | .int y :: .int x :: st => xnext (mi, pc + 1, ls, .int (x + y) :: st, w)
    | _ => none
  | .isub => match st with
    | .int y :: .int x :: st => xnext (mi, pc + 1, ls, .int (x - y) :: st, w)
    | _ => none
  | .imul => match st with
    | .int y :: .int x :: st => xnext (mi, pc + 1, ls, .int (x * y) :: st, w)
    | _ => none
  | .idiv => match st with
    | .int y :: .int x :: st => xg (!decide (y = 0)) (mi, pc + 1, ls, .int (x / y) :: st, w)
    | _ => none
  | .irem => match st with
    | .int y :: .int x :: st => xg (!decide (y = 0)) (mi, pc + 1, ls, .int (xrem x y) :: st, w)
    | _ => none
  | .ineg => match st with
    | .int x :: st => xnext (mi, pc + 1, ls, .int (-x) :: st, w)
    | _ => none
  | .iand => match st with
    | .int y :: .int x :: st => xnext (mi, pc + 1, ls, .int (x &&& y) :: st, w)
    | _ => none
  | .ior => match st with
    | .int y :: .int x :: st => xnext (mi, pc + 1, ls, .int (x ||| y) :: st, w)
    | _ => none
  | .ixor => match st with
    | .int y :: .int x :: st => xnext (mi, pc + 1, ls, .int (x ^^^ y) :: st, w)
    | _ => none
  | .ishl => match st with
    | .int y :: .int x :: st => xnext (mi, pc + 1, ls, .int (x <<< (y &&& 31)) :: st, w)
    | _ => none
  | .ishr => match st with
    | .int y :: .int x :: st => xnext (mi, pc + 1, ls, .int (x >>> (y &&& 31)) :: st, w)
    | _ => none
  | .iushr => match st with
    | .int y :: .int x :: st => xnext (mi, pc + 1, ls, .int ((x.toUInt32 >>> (y.toUInt32 &&& Int32.toUInt32 31)).toInt32) :: st, w)
    | _ => none
  | .i2l => match st with
    | .int x :: st => xnext (mi, pc + 1, ls, .long x.toInt64 :: st, w)
    | _ => none
  | .l2i => match st with
    | .long x :: st => xnext (mi, pc + 1, ls, .int x.toInt32 :: st, w)
    | _ => none
  | .ladd => match st with
    | .long y :: .long x :: st => xnext (mi, pc + 1, ls, .long (x + y) :: st, w)
    | _ => none
  | .lmul => match st with
    | .long y :: .long x :: st => xnext (mi, pc + 1, ls, .long (x * y) :: st, w)
    | _ => none
  | .ldiv => match st with
    | .long y :: .long x :: st => xg (!decide (y = 0)) (mi, pc + 1, ls, .long (x / y) :: st, w)
    | _ => none
  | .lrem => match st with
    | .long y :: .long x :: st => xg (!decide (y = 0)) (mi, pc + 1, ls, .long (xremL x y) :: st, w)
    | _ => none
  | .land => match st with
    | .long y :: .long x :: st => xnext (mi, pc + 1, ls, .long (x &&& y) :: st, w)
    | _ => none
  | .lcmp => match st with
    | .long y :: .long x :: st => xnext (mi, pc + 1, ls, .int (lg_cmp x y) :: st, w)
    | _ => none
  | _ => none
/-- jumps, switches, answers -/
def xop3 (ins : Instr) (x u : Nat) (sw : List (Int32 × Nat)) (mi pc : Nat) (ls st : List Value) (w : xW) : Option xAct := match ins with
  | .goto off => xnext (mi, xtg pc off, ls, st, w)
  | .ifCond c off => match st with
    | .int a :: st => xbr (xcond c a 0) (mi, xtg pc off, ls, st, w) (mi, pc + 3, ls, st, w)
    | _ => none
  | .if_icmp c off => match st with
    | .int b :: .int a :: st => xbr (xcond c a b) (mi, xtg pc off, ls, st, w) (mi, pc + 3, ls, st, w)
    | _ => none
  | .tableswitch _ _ _ _ => match st with
    | .int a :: st => some (.inr (.inr (.inr (a, sw.map (fun q => (q.1, (mi, q.2, ls, st, w))), (mi, u, ls, st, w)))))
    | _ => none
  | .lookupswitch _ _ => match st with
    | .int a :: st => some (.inr (.inr (.inr (a, sw.map (fun q => (q.1, (mi, q.2, ls, st, w))), (mi, u, ls, st, w)))))
    | _ => none
  | .ireturn => match st with
    | [.int a] => some (.inr (.inl (x == 0 || (a &&& 1) == a, (some (.int a), w))))
    | _ => none
  | .return_ => match st with
    | [] => some (.inr (.inl (true, (none, w))))
    | _ => none
  | _ => none
def xgs (z mi pc : Nat) (ls st : List Value) (w : xW) (a y : Nat) : xSt := match z with
  | 0 => (mi, pc + 3, ls, .int (w.2.1 a y) :: st, w)
  | 1 => (mi, pc + 3, ls, .ref (w.1.2.2.2 a y) :: st, w)
  | _ => (mi, pc + 3, ls, .long (w.2.2 a y) :: st, w)
/-- cells -/
def xop4 (ins : Instr) (x y z : Nat) (mi pc : Nat) (ls st : List Value) (w : xW) : Option xAct := match ins with
  | .getfield _ => match st with
    | .ref a :: st => xg (decide ((w.1.2.2.1 a).1 = x)) (xgs z mi pc ls st w a y)
    | _ => none
  | .putfield _ => match z, st with
    | 0, .int v :: .ref a :: st => xg (decide ((w.1.2.2.1 a).1 = x)) (mi, pc + 3, ls, st, (w.1, xu w.2.1 a y v, w.2.2))
    | 1, .ref v :: .ref a :: st => xg (decide ((w.1.2.2.1 a).1 = x)) (mi, pc + 3, ls, st, ((w.1.1, w.1.2.1, w.1.2.2.1, xu w.1.2.2.2 a y v), w.2.1, w.2.2))
    | 2, .long v :: .ref a :: st => xg (decide ((w.1.2.2.1 a).1 = x)) (mi, pc + 3, ls, st, (w.1, w.2.1, xu w.2.2 a y v))
    | _, _ => none
  | .iaload => match st with
    | .int i :: .ref a :: st => xg (decide ((w.1.2.2.1 a).1 = 11) && xin i (w.1.2.2.1 a).2) (mi, pc + 1, ls, .int (w.2.1 a i.toNatClampNeg) :: st, w)
    | .int i :: .retAddr _ :: st => xg (decide ((w.1.2.2.1 0).1 = 12) && xin i (w.1.2.2.1 0).2) (mi, pc + 1, ls, .int (w.2.1 0 i.toNatClampNeg) :: st, w)
    | _ => none
  | .iastore => match st with
    | .int v :: .int i :: .ref a :: st => xg (decide ((w.1.2.2.1 a).1 = 11) && xin i (w.1.2.2.1 a).2) (mi, pc + 1, ls, st, (w.1, xu w.2.1 a i.toNatClampNeg v, w.2.2))
    | _ => none
  | .baload => match st with
    | .int i :: .ref a :: st => xg (decide ((w.1.2.2.1 a).1 = 10) && xin i (w.1.2.2.1 a).2) (mi, pc + 1, ls, .int (w.2.1 a i.toNatClampNeg) :: st, w)
    | _ => none
  | .bastore => match st with
    | .int v :: .int i :: .ref a :: st => xg (decide ((w.1.2.2.1 a).1 = 10) && xin i (w.1.2.2.1 a).2) (mi, pc + 1, ls, st, (w.1, xu w.2.1 a i.toNatClampNeg (v &&& 1), w.2.2))
    | _ => none
  | .arraylength => match st with
    | .ref a :: st => xg (decide ((w.1.2.2.1 a).1 = 11)) (mi, pc + 1, ls, .int (Int32.ofNat (w.1.2.2.1 a).2) :: st, w)
    | .retAddr _ :: st => xg (decide ((w.1.2.2.1 0).1 = 12)) (mi, pc + 1, ls, .int (Int32.ofNat (w.1.2.2.1 0).2) :: st, w)
    | _ => none
  | .new _ => xnext (mi, pc + 3, ls, .ref w.1.1 :: st, ((w.1.1 + 1, w.1.2.1 + y, xur w.1.2.2.1 w.1.1 (x, 0), xur w.1.2.2.2 w.1.1 (fun _ => 0)), xur w.2.1 w.1.1 (fun _ => 0), xur w.2.2 w.1.1 (fun _ => 0)))
  | .newarray t => match st with
    | .int i :: st => xg (!decide (i < 0) && decide (i.toNatClampNeg ≤ 100000) && (t == .int || t == .boolean)) (mi, pc + 2, ls, .ref w.1.1 :: st, ((w.1.1 + 1, w.1.2.1 + i.toNatClampNeg, xur w.1.2.2.1 w.1.1 (bif t == .int then 11 else 10, i.toNatClampNeg), xur w.1.2.2.2 w.1.1 (fun _ => 0)), xur w.2.1 w.1.1 (fun _ => 0), xur w.2.2 w.1.1 (fun _ => 0)))
    | _ => none
  | _ => none
/-- calls -/
def xop5 (ins : Instr) (x y z u : Nat) (mi pc : Nat) (ls st : List Value) (w : xW) : Option xAct := match ins with
  | .invokevirtual _ => match st.drop y with
    | .ref b :: rest => xcall (decide ((w.1.2.2.1 b).1 = z)) x (.ref b :: (st.take y).reverse) u mi (pc + 3) ls rest w
    | _ => none
  | .invokespecial _ => bif x == 999 then (match st with
    | .ref b :: rest => xg (decide (b ≠ 0) && decide ((rest.map fun v => v.category).sum ≤ 8)) (mi, pc + 3, ls, rest, w)
    | _ => none) else (match st.drop y with
    | .ref b :: rest => xcall (decide (b ≠ 0)) x (.ref b :: (st.take y).reverse) u mi (pc + 3) ls rest w
    | _ => none)
  | .invokestatic _ => bif x == 999 then (match st with
    | .int n :: .int dp :: .ref a1 :: .int sp :: .ref a0 :: rest => xg (decide ((w.1.2.2.1 a0).1 = 11) && (decide ((w.1.2.2.1 a1).1 = 11) && (!decide (sp < 0) && (!decide (dp < 0) && (!decide (n < 0) && (decide (sp.toNatClampNeg + n.toNatClampNeg ≤ (w.1.2.2.1 a0).2) && (decide (dp.toNatClampNeg + n.toNatClampNeg ≤ (w.1.2.2.1 a1).2) && decide ((rest.map fun v => v.category).sum ≤ 8)))))))) (mi, pc + 3, ls, rest, (w.1, xcp w.2.1 a0 sp.toNatClampNeg a1 dp.toNatClampNeg n.toNatClampNeg, w.2.2))
    | _ => none) else bif x == 997 then (match st with
    | .int y :: .int x :: rest => xg (decide ((rest.map fun v => v.category).sum ≤ 8)) (mi, pc + 3, ls, .int (xmax x y) :: rest, w)
    | _ => none) else bif x == 998 then (match st with
    | .int y :: .int x :: rest => xg (decide ((rest.map fun v => v.category).sum ≤ 8)) (mi, pc + 3, ls, .int (xmin x y) :: rest, w)
    | _ => none) else xcall (decide (y ≤ st.length)) x (st.take y).reverse u mi (pc + 3) ls (st.drop y) w
  | _ => none
/-- which group an instruction is of -/
def xgrp (ins : Instr) : Nat := match ins with
  | .iload_n _ => 1 | .iload _ => 1 | .lload_n _ => 1 | .lload _ => 1 | .aload_n _ => 1 | .aload _ => 1
  | .istore_n _ => 1 | .istore _ => 1 | .lstore_n _ => 1 | .astore_n _ => 1 | .iinc _ _ => 1
  | .iconst _ => 1 | .bipush _ => 1 | .sipush _ => 1 | .lconst _ => 1 | .ldc _ => 1 | .ldc_w _ => 1 | .ldc2_w _ => 1
  | .dup => 1 | .dup2 => 1 | .pop => 1
  | .goto _ => 3 | .ifCond _ _ => 3 | .if_icmp _ _ => 3 | .tableswitch _ _ _ _ => 3 | .lookupswitch _ _ => 3 | .ireturn => 3 | .return_ => 3
  | .getfield _ => 4 | .putfield _ => 4 | .iaload => 4 | .iastore => 4 | .baload => 4 | .bastore => 4 | .arraylength => 4 | .new _ => 4 | .newarray _ => 4
  | .invokevirtual _ => 5 | .invokespecial _ => 5 | .invokestatic _ => 5
  | _ => 2
def xexe (e : xE) (mi pc : Nat) (ls st : List Value) (w : xW) : Option xAct := match xgrp e.2.1 with
  | 1 => xop1 e.2.1 e.2.2.2.2.1 mi pc ls st w
  | 2 => xop2 e.2.1 mi pc ls st w
  | 3 => xop3 e.2.1 e.2.2.2.1.1 e.2.2.2.1.2.2.2 e.2.2.2.2.2.1 mi pc ls st w
  | 4 => xop4 e.2.1 e.2.2.2.1.1 e.2.2.2.1.2.1 e.2.2.2.1.2.2.1 mi pc ls st w
  | 5 => xop5 e.2.1 e.2.2.2.1.1 e.2.2.2.1.2.1 e.2.2.2.1.2.2.1 e.2.2.2.1.2.2.2 mi pc ls st w
  | _ => none
def xstep (s : xSt) : Option xAct := match xfind (xnth xTs s.1) s.2.1 with
  | none => none
  | some e => xexe e s.1 s.2.1 (xkill e.2.2.2.2.2.2.2.2 s.2.2.1) s.2.2.2.1 s.2.2.2.2
def xpick (a : Int32) (cs : List (Int32 × xSt)) (d : xSt) : xSt := match cs with
  | [] => d
  | q :: r => if a = q.1 then q.2 else xpick a r d
/-- one step of ev, whatever goes on behind it -/
def evS (f : xSt → Option xR) (s : xSt) : Option xR := match xstep s with
  | none => none
  | some (.inl q) => if q.1 = true then f q.2.1 else (match q.2.2 with
    | none => none
    | some s2 => f s2)
  | some (.inr (.inl q)) => if q.1 = true then some q.2 else none
  | some (.inr (.inr (.inl q))) => if q.1 = true then (f q.2.1 >>= fun r => f (q.2.2.1, q.2.2.2.1, q.2.2.2.2.1, r.1.toList ++ q.2.2.2.2.2, r.2)) else none
  | some (.inr (.inr (.inr q))) => f (xpick q.1 q.2.1 q.2.2)
def evn : Nat → xSt → Option xR
  | 0, _ => none
  | n + 1, s => evS (evn n) s
theorem evS_mono {f g : xSt → Option xR} (h : ∀ s r, f s = some r → g s = some r) (s : xSt) (r : xR) (hf : evS f s = some r) : evS g s = some r := by
  unfold evS at hf ⊢
  generalize xstep s = o at hf ⊢
  rcases o with _ | (q | q | q | q)
  · cases hf
  · rcases q with ⟨c, s1, s2⟩
    cases c
    · cases s2
      · cases hf
      · exact h _ _ hf
    · exact h _ _ hf
  · exact hf
  · rcases q with ⟨c, s1, k⟩
    cases c
    · cases hf
    · dsimp only at hf ⊢
      rw [if_pos rfl] at hf ⊢
      obtain ⟨r1, h1, h2⟩ := Option.bind_eq_some_iff.mp hf
      exact Option.bind_eq_some_iff.mpr ⟨r1, h _ _ h1, h _ _ h2⟩
  · exact h _ _ hf
theorem evn_up : ∀ (n : Nat) (s : xSt) (r : xR), evn n s = some r → evn (n + 1) s = some r
  | 0, _, _, h => by cases h
  | n + 1, s, r, h => evS_mono (evn_up n) s r h
theorem evn_le {n m : Nat} (hnm : n ≤ m) (s : xSt) (r : xR) (h : evn n s = some r) : evn m s = some r := by
  induction hnm with
  | refl => exact h
  | step _ ih => exact evn_up _ _ _ ih
/-- what a state comes to, by as many steps as it takes; none if it comes to nothing -/
noncomputable def ev (s : xSt) : Option xR := @dite _ (∃ n, (evn n s).isSome = true) (Classical.propDecidable _) (fun h => evn h.choose s) (fun _ => none)
theorem ev_iff {s : xSt} {r : xR} : ev s = some r ↔ ∃ n, evn n s = some r := by
  unfold ev
  by_cases h : ∃ n, (evn n s).isSome = true
  · rw [dif_pos h]
    constructor
    · intro h1; exact ⟨_, h1⟩
    · rintro ⟨n, hn⟩
      obtain ⟨r2, h2⟩ := Option.isSome_iff_exists.mp h.choose_spec
      have a := evn_le (Nat.le_max_left n h.choose) s r hn
      have b := evn_le (Nat.le_max_right n h.choose) s r2 h2
      rw [h2, ← a, ← b]
  · rw [dif_neg h]
    constructor
    · intro h1; cases h1
    · rintro ⟨n, hn⟩
      exact absurd ⟨n, by rw [hn]; rfl⟩ h
theorem evS_back {s : xSt} {r : xR} (h : evS ev s = some r) : ∃ n, evS (evn n) s = some r := by
  unfold evS at h ⊢
  generalize xstep s = o at h ⊢
  rcases o with _ | (q | q | q | q)
  · cases h
  · rcases q with ⟨c, s1, s2⟩
    cases c
    · cases s2
      · cases h
      · exact ev_iff.mp h
    · exact ev_iff.mp h
  · exact ⟨0, h⟩
  · rcases q with ⟨c, s1, k⟩
    cases c
    · cases h
    · dsimp only at h ⊢
      simp only [if_pos rfl] at h ⊢
      obtain ⟨r1, h1, h2⟩ := Option.bind_eq_some_iff.mp h
      obtain ⟨n1, e1⟩ := ev_iff.mp h1
      obtain ⟨n2, e2⟩ := ev_iff.mp h2
      exact ⟨max n1 n2, Option.bind_eq_some_iff.mpr ⟨r1, evn_le (Nat.le_max_left n1 n2) _ _ e1, evn_le (Nat.le_max_right n1 n2) _ _ e2⟩⟩
  · exact ev_iff.mp h
theorem ev_eq (s : xSt) : ev s = evS ev s := by
  apply Option.ext
  intro r
  constructor
  · intro h
    obtain ⟨n, hn⟩ := ev_iff.mp h
    cases n with
    | zero => cases hn
    | succ n => exact evS_mono (fun s r h => ev_iff.mpr ⟨n, h⟩) s r hn
  · intro h
    obtain ⟨n, hn⟩ := evS_back h
    exact ev_iff.mpr ⟨n + 1, hn⟩
/-- what holds of every step holds of ev -/
theorem ev_pc (P : xSt → xR → Prop) (hP : ∀ f : xSt → Option xR, (∀ s r, f s = some r → P s r) → ∀ s r, evS f s = some r → P s r) : ∀ s r, ev s = some r → P s r := by
  intro s r h
  obtain ⟨n, hn⟩ := ev_iff.mp h
  have key : ∀ (n : Nat) (s : xSt) (r : xR), evn n s = some r → P s r := by
    intro n
    induction n with
    | zero => intro s r h; cases h
    | succ n ih => intro s r h; exact hP (evn n) ih s r h
  exact key n s r hn
/-- a stretch of the code as one term: it stops where a loop begins (but goes out of the first state), and at n -/
def xhead (mi pc : Nat) : Option (List Nat) := match xfind (xnth xTs mi) pc with
  | none => none
  | some e => bif e.2.2.2.2.2.2.2.1 == 1 then some e.2.2.2.2.2.2.2.2 else none
noncomputable def xrunk (k : xSt → Option xR) (s : xSt) : Option xR := match xstep s with
  | none => none
  | some (.inl q) => bif q.1 then k q.2.1 else (match q.2.2 with
    | none => none
    | some s2 => k s2)
  | some (.inr (.inl q)) => bif q.1 then some q.2 else none
  | some (.inr (.inr (.inl q))) => bif q.1 then (ev q.2.1).bind (fun r => k (q.2.2.1, q.2.2.2.1, q.2.2.2.2.1, r.1.toList ++ q.2.2.2.2.2, r.2)) else none
  | some (.inr (.inr (.inr q))) => q.2.1.foldr (fun c k2 => if q.1 = c.1 then k c.2 else k2) (k q.2.2)
noncomputable def run : Nat → Bool → xSt → Option xR
  | 0, _, s => ev s
  | n + 1, go, s => match go with
    | true => xrunk (run n false) s
    | false => match xhead s.1 s.2.1 with
      | some ds => ev (s.1, s.2.1, xkill ds s.2.2.1, s.2.2.2.1, s.2.2.2.2)
      | none => xrunk (run n false) s
theorem xkill_twice (ds : List Nat) (ls : List Value) : xkill ds (xkill ds ls) = xkill ds ls := by
  have set_comm : ∀ (l : List Value) (i j : Nat), (l.set i .null).set j .null = (l.set j .null).set i .null := by
    intro l i j
    by_cases h : i = j
    · subst h; rfl
    · exact List.set_comm _ _ h
  have kill_set : ∀ (ds : List Nat) (l : List Value) (i : Nat), xkill ds (l.set i .null) = (xkill ds l).set i .null := by
    intro ds
    induction ds with
    | nil => intro l i; rfl
    | cons d ds ih => intro l i; show xkill ds ((l.set i .null).set d .null) = (xkill ds (l.set d .null)).set i .null; rw [set_comm, ih]
  induction ds generalizing ls with
  | nil => rfl
  | cons d ds ih =>
    show xkill ds ((xkill ds (ls.set d .null)).set d .null) = xkill ds (ls.set d .null)
    rw [kill_set, ih, ← kill_set]
    rw [List.set_set]
theorem xstep_kill {mi pc : Nat} {ls st : List Value} {w : xW} {ds : List Nat} (h : xhead mi pc = some ds) : xstep (mi, pc, xkill ds ls, st, w) = xstep (mi, pc, ls, st, w) := by
  unfold xhead at h
  unfold xstep
  show (match xfind (xnth xTs mi) pc with | none => none | some e => xexe e mi pc (xkill e.2.2.2.2.2.2.2.2 (xkill ds ls)) st w) = (match xfind (xnth xTs mi) pc with | none => none | some e => xexe e mi pc (xkill e.2.2.2.2.2.2.2.2 ls) st w)
  cases hf : xfind (xnth xTs mi) pc with
  | none => rfl
  | some e =>
    rw [hf] at h
    dsimp only at h
    cases hb : (e.2.2.2.2.2.2.2.1 == 1) with
    | false => rw [hb] at h; cases h
    | true =>
      rw [hb] at h
      cases h
      dsimp only
      rw [xkill_twice]
theorem ev_kill {mi pc : Nat} {ls st : List Value} {w : xW} {ds : List Nat} (h : xhead mi pc = some ds) : ev (mi, pc, xkill ds ls, st, w) = ev (mi, pc, ls, st, w) := by
  rw [ev_eq (mi, pc, xkill ds ls, st, w), ev_eq (mi, pc, ls, st, w)]
  unfold evS
  rw [xstep_kill h]
theorem xrunk_ev (k : xSt → Option xR) (ih : ∀ s, k s = ev s) (s : xSt) : xrunk k s = ev s := by
  rw [ev_eq s]
  unfold xrunk evS
  rcases xstep s with _ | (q | q | q | q)
  · rfl
  · rcases q with ⟨c, s1, s2⟩
    cases c
    · cases s2
      · rfl
      · exact ih _
    · exact ih _
  · rcases q with ⟨c, r⟩
    cases c <;> rfl
  · rcases q with ⟨c, s1, k⟩
    cases c
    · rfl
    · dsimp only [cond_true]
      rw [if_pos rfl]
      show Option.bind _ _ = Option.bind _ _
      congr 1
      funext r
      exact ih _
  · rcases q with ⟨a, cs, d⟩
    dsimp only
    induction cs with
    | nil => exact ih _
    | cons c cs ih2 =>
      simp only [List.foldr_cons, xpick]
      by_cases hc : a = c.1
      · rw [if_pos hc, if_pos hc]; exact ih _
      · rw [if_neg hc, if_neg hc]; exact ih2
theorem run_ev : ∀ (n : Nat) (go : Bool) (s : xSt), run n go s = ev s
  | 0, _, _ => rfl
  | n + 1, go, s => by
    have hs := xrunk_ev (run n false) (run_ev n false) s
    obtain ⟨mi, pc, ls, st, w⟩ := s
    cases go with
    | true => exact hs
    | false =>
      show (match xhead mi pc with | some ds => ev (mi, pc, xkill ds ls, st, w) | none => xrunk (run n false) (mi, pc, ls, st, w)) = _
      cases hh : xhead mi pc with
      | none => exact hs
      | some ds => exact ev_kill hh
/-- an equation of the code: by reduction -/
theorem ev_is {s : xSt} {r : Option xR} (n : Nat) (h : run n true s = r) : ev s = r := (run_ev n true s).symm.trans h
