/-! the rows of the small machine's code are what the bytes say -/
def cN (c : Jvm.ClassFile.Cond) : Nat := match c with
  | .eq => 0
  | .ne => 1
  | .lt => 2
  | .ge => 3
  | .gt => 4
  | .le => 5
def pN (M : Nat) : Nat := match parseMethodDescriptor (mY M).desc with
  | some d => d.parameters.length
  | none => 99
def okO (M pc op a b : Nat) (k : Int) (sw : List (Int × Nat)) (ins : Instr) (len : Nat) : Bool := match op with
  | 0 => (match ins with
    | .iconst i => decide (len = 1 ∧ i = k ∧ r32 k)
    | .bipush n => decide (len = 2 ∧ n = k ∧ -128 ≤ k ∧ k ≤ 127)
    | .sipush n => decide (len = 3 ∧ n = k ∧ -32768 ≤ k ∧ k ≤ 32767)
    | .ldc i => decide (len = 2) && csk (mO M) i k
    | .ldc_w i => decide (len = 3) && csk (mO M) i k
    | _ => false)
  | 1 => (match ins with
    | .lconst n => decide (len = 1 ∧ (n.val : Int) = k)
    | .ldc2_w i => decide (len = 3) && cslk (mO M) i k
    | _ => false)
  | 2 => (match ins with
    | .iload i => decide (len = 2 ∧ i = a)
    | .iload_n q => decide (len = 1 ∧ q.val = a)
    | _ => false)
  | 3 => (match ins with
    | .lload i => decide (len = 2 ∧ i = a)
    | .lload_n q => decide (len = 1 ∧ q.val = a)
    | _ => false)
  | 4 => (match ins with
    | .aload i => decide (len = 2 ∧ i = a)
    | .aload_n q => decide (len = 1 ∧ q.val = a)
    | _ => false)
  | 5 => (match ins with
    | .istore i => decide (len = 2 ∧ i = a)
    | .istore_n q => decide (len = 1 ∧ q.val = a)
    | _ => false)
  | 6 => (match ins with
    | .lstore i => decide (len = 2 ∧ i = a)
    | .lstore_n q => decide (len = 1 ∧ q.val = a)
    | _ => false)
  | 7 => (match ins with
    | .astore i => decide (len = 2 ∧ i = a)
    | .astore_n q => decide (len = 1 ∧ q.val = a)
    | _ => false)
  | 8 => (match ins with
    | .iinc i n => decide (len = 3 ∧ i = a ∧ n = k ∧ r32 k)
    | _ => false)
  | 9 => (match ins with
    | .iadd => decide (len = 1 ∧ b = 0)
    | .isub => decide (len = 1 ∧ b = 1)
    | .imul => decide (len = 1 ∧ b = 2)
    | .iand => decide (len = 1 ∧ b = 3)
    | .ior => decide (len = 1 ∧ b = 4)
    | .ixor => decide (len = 1 ∧ b = 5)
    | .idiv => decide (len = 1 ∧ b = 6)
    | .irem => decide (len = 1 ∧ b = 7)
    | .ishl => decide (len = 1 ∧ b = 8)
    | .ishr => decide (len = 1 ∧ b = 9)
    | .iushr => decide (len = 1 ∧ b = 10)
    | _ => false)
  | 10 => (match ins with
    | .ineg => decide (len = 1)
    | _ => false)
  | 11 => (match ins with
    | .ladd => decide (len = 1 ∧ b = 0)
    | .lsub => decide (len = 1 ∧ b = 1)
    | .lmul => decide (len = 1 ∧ b = 2)
    | .ldiv => decide (len = 1 ∧ b = 3)
    | .lrem => decide (len = 1 ∧ b = 4)
    | .land => decide (len = 1 ∧ b = 5)
    | .lor => decide (len = 1 ∧ b = 6)
    | _ => false)
  | 12 => (match ins with
    | .lneg => decide (len = 1)
    | _ => false)
  | 13 => (match ins with
    | .lshl => decide (len = 1 ∧ b = 0)
    | .lshr => decide (len = 1 ∧ b = 1)
    | _ => false)
  | 14 => (match ins with
    | .i2l => decide (len = 1)
    | _ => false)
  | 15 => (match ins with
    | .l2i => decide (len = 1)
    | _ => false)
  | 16 => (match ins with
    | .lcmp => decide (len = 1)
    | _ => false)
  | 17 => (match ins with
    | .dup => decide (len = 1)
    | _ => false)
  | 18 => (match ins with
    | .dup2 => decide (len = 1)
    | _ => false)
  | 19 => (match ins with
    | .pop => decide (len = 1)
    | _ => false)
  | 20 => (match ins with
    | .ifCond c off => decide (len = 3 ∧ cN c = b ∧ (pc : Int) + off = a)
    | _ => false)
  | 21 => (match ins with
    | .if_icmp c off => decide (len = 3 ∧ cN c = b ∧ (pc : Int) + off = a)
    | _ => false)
  | 22 => (match ins with
    | .goto off => decide (len = 3 ∧ (pc : Int) + off = a)
    | _ => false)
  | 23 => (match ins with
    | .getfield i => decide (len = 3) && flk (mO M) i a b
    | _ => false)
  | 24 => (match ins with
    | .putfield i => decide (len = 3 ∧ (fT a b : Int) = k ∧ (((clT a).2.1 b).2.2.2 = true → (mY M).name = "<init>" ∧ ((clT a).2.1 b).1 = cnm (mO M))) && flk (mO M) i a b
    | _ => false)
  | 25 => (match ins with
    | .getstatic i => decide (len = 3) && slk (mO M) i a
    | _ => false)
  | 26 => (match ins with
    | .iaload => decide (len = 1)
    | _ => false)
  | 27 => (match ins with
    | .laload => decide (len = 1)
    | _ => false)
  | 28 => (match ins with
    | .baload => decide (len = 1)
    | _ => false)
  | 29 => (match ins with
    | .aaload => decide (len = 1)
    | _ => false)
  | 30 => (match ins with
    | .iastore => decide (len = 1)
    | _ => false)
  | 31 => (match ins with
    | .lastore => decide (len = 1)
    | _ => false)
  | 32 => (match ins with
    | .bastore => decide (len = 1)
    | _ => false)
  | 33 => (match ins with
    | .aastore => decide (len = 1)
    | _ => false)
  | 34 => (match ins with
    | .arraylength => decide (len = 1)
    | _ => false)
  | 35 => (match ins with
    | .newarray .int => decide (len = 2 ∧ b = 0)
    | .newarray .long => decide (len = 2 ∧ b = 1)
    | .newarray .boolean => decide (len = 2 ∧ b = 2)
    | _ => false)
  | 36 => (match ins with
    | .anewarray i => decide (len = 3) && clk (mO M) i 6
    | _ => false)
  | 37 => (match ins with
    | .new i => decide (len = 3) && clk (mO M) i a
    | _ => false)
  | 38 => (match ins with
    | .invokestatic i => decide (len = 3 ∧ mK a = 0 ∧ pN a = b ∧ 4 ≤ a) && (mlk (mO M) i a || mnk (mO M) i a)
    | _ => false)
  | 39 => (match ins with
    | .return_ => decide (len = 1 ∧ mR M = none)
    | _ => false)
  | 40 => (match ins with
    | .ireturn => decide (len = 1 ∧ ((a = 0 ∧ mR M = some .int) ∨ (a = 1 ∧ mR M = some .boolean)))
    | _ => false)
  | 41 => (match ins with
    | .lreturn => decide (len = 1 ∧ mR M = some .long)
    | _ => false)
  | 42 => (match ins with
    | .areturn => decide (len = 1) && (match mR M with
      | some (.object _) => true
      | _ => false)
    | _ => false)
  | 43 => (match ins with
    | .tableswitch d lo hi offs => decide ((pc : Int) + d = a ∧ hi + 1 = lo + sw.length ∧ offs.toList = sw.map (fun q => (q.2 : Int) - pc) ∧ sw.map (fun q => q.1) = (List.range sw.length).map (fun (i : Nat) => lo + (i : Int)))
    | .lookupswitch d ps => decide ((pc : Int) + d = a ∧ ps.toList = sw.map (fun q => (q.1, (q.2 : Int) - pc))) && (ps.toList.zip (ps.toList.drop 1)).all (fun (x, y) => decide (x.1 < y.1))
    | _ => false)
  | 45 => (match ins with
    | .invokestatic i => decide (len = 3) && ack (mO M) i
    | _ => false)
  | 46 => (match ins with
    | .invokevirtual i => decide (len = 3 ∧ mK a = 1 ∧ pN a + 1 = b ∧ k = mO a ∧ mO a < 11 ∧ 4 ≤ a) && mlk (mO M) i a && seB a
    | _ => false)
  | 47 => (match ins with
    | .invokespecial i => decide (len = 3 ∧ mK a = 1 ∧ pN a + 1 = b ∧ (mY a).name = "<init>" ∧ mR a = none ∧ 4 ≤ a) && (mlk (mO M) i a || mnk (mO M) i a)
    | _ => false)
  | 48 => (match ins with
    | .invokespecial i => decide (len = 3) && mlk (mO M) i 0
    | _ => false)
  | 49 => (match ins with
    | .invokestatic i => decide (len = 3) && mlk (mO M) i 1
    | _ => false)
  | 50 => (match ins with
    | .invokestatic i => decide (len = 3) && mlk (mO M) i 2
    | _ => false)
  | 51 => (match ins with
    | .invokestatic i => decide (len = 3) && mlk (mO M) i 3
    | _ => false)
  | 52 => (match ins with
    | .ldc i => decide (len = 2 ∧ i = 61 ∧ mO M = 7)
    | _ => false)
  | 53 => (match ins with
    | .invokevirtual i => decide (len = 3 ∧ i = 63 ∧ mO M = 7)
    | _ => false)
  | 54 => (match ins with
    | .invokevirtual i => decide (len = 3 ∧ i = 68 ∧ mO M = 7)
    | _ => false)
  | 55 => (match ins with
    | .pop2 => decide (len = 1)
    | _ => false)
  | 99 => true
  | _ => false
def okB (M pc : Nat) (ce : CE) : Bool := decide (ce.1 = 99) || (match decode (mB M) pc with
  | .ok (ins, len) => decide (ce.2.1 = pc + len) && okO M pc ce.1 ce.2.2.1 ce.2.2.2.1 ce.2.2.2.2.1 ce.2.2.2.2.2 ins len
  | _ => false)
def ckP (M : Nat) : Prop := ((allC[M]?).getD []).all (fun q => okB M q.1 q.2) = true
